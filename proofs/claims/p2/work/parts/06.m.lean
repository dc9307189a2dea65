theorem imul_bb (p q r : Nat) (hr : p * q = r) (h : r ≤ 2147483647) {x y : Int32} (hx : 0 ≤ x.toInt ∧ x.toInt ≤ (p : Int)) (hy : 0 ≤ y.toInt ∧ y.toInt ≤ (q : Int)) : 0 ≤ (x * y).toInt ∧ (x * y).toInt ≤ (r : Int) := by
  obtain ⟨a, ha, rfl⟩ := inn_of hx.1
  obtain ⟨b, hb, rfl⟩ := inn_of hy.1
  rw [nI_toInt ha] at hx
  rw [nI_toInt hb] at hy
  have h1 : a * b ≤ p * q := Nat.mul_le_mul (by omega) (by omega)
  rw [pk_mul, nI_toInt (by omega)]
  omega
theorem dX12_in_0 : decode cX12_in 0 = .ok (.iload_n 0, 1) := by decide +kernel
theorem dX12_in_1 : decode cX12_in 1 = .ok (.iload_n 1, 1) := by decide +kernel
theorem dX12_in_10 : decode cX12_in 10 = .ok (.iconst 1, 1) := by decide +kernel
theorem dX12_in_11 : decode cX12_in 11 = .ok (.goto 4, 3) := by decide +kernel
theorem dX12_in_14 : decode cX12_in 14 = .ok (.iconst 0, 1) := by decide +kernel
theorem dX12_in_15 : decode cX12_in 15 = .ok (.ireturn, 1) := by decide +kernel
theorem dX12_in_2 : decode cX12_in 2 = .ok (.if_icmp .lt 12, 3) := by decide +kernel
theorem dX12_in_5 : decode cX12_in 5 = .ok (.iload_n 0, 1) := by decide +kernel
theorem dX12_in_6 : decode cX12_in 6 = .ok (.iload_n 2, 1) := by decide +kernel
theorem dX12_in_7 : decode cX12_in 7 = .ok (.if_icmp .gt 7, 3) := by decide +kernel
def vX12_in : List Cond := .code yX12_in cX12_in 3 (some .boolean) :: ([])
set_option maxHeartbeats 2000000 in
set_option maxRecDepth 100000 in
theorem kX12_in (l : Launch) (dC : Nat → ClassId) (dI : Nat → Nat → Nat) (k0 : Int32) (k1 : Int32) (k2 : Int32) (sz : Nat) : Met l yX12_in vX12_in ({ frames := 0, cells := 0, slots := 0, locals := 0 }) (PC (dC, dI) [.int k0, .int k1, .int k2] sz [] []) (va_Qi (S := Unit) (fun (r : Int32) _ => ((r = 0) ∨ (r = 1 ∧ (¬ (k0.toInt < k1.toInt)) ∧ (¬ (k2.toInt < k0.toInt))))) (fun _ t => BC (dC, dI) (va_A [] sz) [] [] t) (va_A [] sz)) 0 0 (va_A [] sz) := by
  refine Met.ofW (cc := cX12_in) (maxL := 3) (ret := (some .boolean)) (by decide) rfl ?_
  intro p e s m args below meth c s₁ B hml hv
  obtain ⟨rfl, hsz, hP, hK, hD0, hN⟩ := hv
  have hx := B.exec
  have hb := B.bytes
  have hr := B.returns
  have hts := atoms_spec (ws := vX12_in) B.pre
  have hown : s.vm.findClass RX12 = some m.cls := findClass_of_methodNamed B.named
  have hlocks := B.notSynchronized
  subst hsz
  have hD := hD0.self (sz := s.heap.size)
  generalize hAe : va_A [] s.heap.size = A at hD ⊢
  have hA : ∀ q : Nat, s.heap.size ≤ q → A q := fun q h => by rw [← hAe]; exact Or.inr h
  have hS : va_S A s.heap s.heap [] := va_S.rf
  have hP : va_P (dC, dI) vwCl [] s.heap := hP
  have hl := lv_entry ([.int k0, .int k1, .int k2]) (n := 3) (Nat.le_of_ble_eq_true rfl)
  rw [lg_entry_eq]
  generalize (lg_sl ([.int k0, .int k1, .int k2]) ++ List.replicate (3 - (lg_sl ([.int k0, .int k1, .int k2])).length) Slot.unset).toArray = ls at hl ⊢
  have hl : lv_has ls 3 [(0, .int k0), (1, .int k1), (2, .int k2)] := hl
  refine lv_iload_n hx hb dX12_in_0 rfl (lv_at hl 0 rfl) ?_
  refine lv_iload_n hx hb dX12_in_1 rfl (lv_at hl 1 rfl) ?_
  refine lv_icmp_lt (tgt := 14) hx hb dX12_in_2 (by decide) (fun c1 => ?_) (fun c1 => ?_)
  · simp only [fa_lt, fa_le, fa_eq, ltv_0] at c1
    refine lv_iconst (v := 0) hx hb dX12_in_14 (by decide) ?_
    have hP9 := hP.sub (ws' := []) [] rfl
    have hD9 := hD.sub (ws' := []) [] (by decide) rfl
    have hK9 := hK.sub (tys' := []) [] rfl
    exact W.zret (v := 0) hx hb hr rfl (fun t ht hW => ⟨⟨0, (), rfl, (Or.inl rfl), by rw [ht]; exact hP9, va_K.moved hW.alike hK9, hD9⟩, hS.F ht⟩) hS.2.2 dX12_in_15
  · simp only [fa_lt, fa_le, fa_eq, ltv_0] at c1
    refine lv_iload_n hx hb dX12_in_5 rfl (lv_at hl 0 rfl) ?_
    refine lv_iload_n hx hb dX12_in_6 rfl (lv_at hl 2 rfl) ?_
    refine lv_icmp_gt (tgt := 14) hx hb dX12_in_7 (by decide) (fun c2 => ?_) (fun c2 => ?_)
    · simp only [fa_lt, fa_le, fa_eq, ltv_0] at c2
      refine lv_iconst (v := 0) hx hb dX12_in_14 (by decide) ?_
      have hP9 := hP.sub (ws' := []) [] rfl
      have hD9 := hD.sub (ws' := []) [] (by decide) rfl
      have hK9 := hK.sub (tys' := []) [] rfl
      exact W.zret (v := 0) hx hb hr rfl (fun t ht hW => ⟨⟨0, (), rfl, (Or.inl rfl), by rw [ht]; exact hP9, va_K.moved hW.alike hK9, hD9⟩, hS.F ht⟩) hS.2.2 dX12_in_15
    · simp only [fa_lt, fa_le, fa_eq, ltv_0] at c2
      refine lv_iconst (v := 1) hx hb dX12_in_10 (by decide) ?_
      refine lv_goto (tgt := 15) hx hb dX12_in_11 (by decide) ?_
      have hP9 := hP.sub (ws' := []) [] rfl
      have hD9 := hD.sub (ws' := []) [] (by decide) rfl
      have hK9 := hK.sub (tys' := []) [] rfl
      exact W.zret (v := 1) hx hb hr rfl (fun t ht hW => ⟨⟨1, (), rfl, (Or.inr ⟨rfl, (by first | trivial | omega | (simp only [ltv_0, ltv_1]; omega)), (by first | trivial | omega | (simp only [ltv_0, ltv_1]; omega))⟩), by rw [ht]; exact hP9, va_K.moved hW.alike hK9, hD9⟩, hS.F ht⟩) hS.2.2 dX12_in_15
theorem dX12_bit_0 : decode cX12_bit 0 = .ok (.iload_n 0, 1) := by decide +kernel
theorem dX12_bit_1 : decode cX12_bit 1 = .ok (.iload_n 1, 1) := by decide +kernel
theorem dX12_bit_10 : decode cX12_bit 10 = .ok (.goto 4, 3) := by decide +kernel
theorem dX12_bit_13 : decode cX12_bit 13 = .ok (.iconst 0, 1) := by decide +kernel
theorem dX12_bit_14 : decode cX12_bit 14 = .ok (.ireturn, 1) := by decide +kernel
theorem dX12_bit_2 : decode cX12_bit 2 = .ok (.ishr, 1) := by decide +kernel
theorem dX12_bit_3 : decode cX12_bit 3 = .ok (.iconst 1, 1) := by decide +kernel
theorem dX12_bit_4 : decode cX12_bit 4 = .ok (.iand, 1) := by decide +kernel
theorem dX12_bit_5 : decode cX12_bit 5 = .ok (.iconst 1, 1) := by decide +kernel
theorem dX12_bit_6 : decode cX12_bit 6 = .ok (.if_icmp .ne 7, 3) := by decide +kernel
theorem dX12_bit_9 : decode cX12_bit 9 = .ok (.iconst 1, 1) := by decide +kernel
def vX12_bit : List Cond := .code yX12_bit cX12_bit 2 (some .boolean) :: ([])
set_option maxHeartbeats 2000000 in
set_option maxRecDepth 100000 in
theorem kX12_bit (l : Launch) (dC : Nat → ClassId) (dI : Nat → Nat → Nat) (k0 : Int32) (k1 : Int32) (hk1 : (0 ≤ k1.toInt ∧ k1.toInt ≤ 5)) (sz : Nat) : Met l yX12_bit vX12_bit ({ frames := 0, cells := 0, slots := 0, locals := 0 }) (PC (dC, dI) [.int k0, .int k1] sz [] []) (va_Qi (S := Unit) (fun (r : Int32) _ => (0 ≤ r.toInt ∧ r.toInt ≤ 1)) (fun _ t => BC (dC, dI) (va_A [] sz) [] [] t) (va_A [] sz)) 0 0 (va_A [] sz) := by
  refine Met.ofW (cc := cX12_bit) (maxL := 2) (ret := (some .boolean)) (by decide) rfl ?_
  intro p e s m args below meth c s₁ B hml hv
  obtain ⟨rfl, hsz, hP, hK, hD0, hN⟩ := hv
  have hx := B.exec
  have hb := B.bytes
  have hr := B.returns
  have hts := atoms_spec (ws := vX12_bit) B.pre
  have hown : s.vm.findClass RX12 = some m.cls := findClass_of_methodNamed B.named
  have hlocks := B.notSynchronized
  subst hsz
  have hD := hD0.self (sz := s.heap.size)
  generalize hAe : va_A [] s.heap.size = A at hD ⊢
  have hA : ∀ q : Nat, s.heap.size ≤ q → A q := fun q h => by rw [← hAe]; exact Or.inr h
  have hS : va_S A s.heap s.heap [] := va_S.rf
  have hP : va_P (dC, dI) vwCl [] s.heap := hP
  have hl := lv_entry ([.int k0, .int k1]) (n := 2) (Nat.le_of_ble_eq_true rfl)
  rw [lg_entry_eq]
  generalize (lg_sl ([.int k0, .int k1]) ++ List.replicate (2 - (lg_sl ([.int k0, .int k1])).length) Slot.unset).toArray = ls at hl ⊢
  have hl : lv_has ls 2 [(0, .int k0), (1, .int k1)] := hl
  refine lv_iload_n hx hb dX12_bit_0 rfl (lv_at hl 0 rfl) ?_
  refine lv_iload_n hx hb dX12_bit_1 rfl (lv_at hl 1 rfl) ?_
  refine lv_ishr hx hb dX12_bit_2 ?_
  refine lv_topi (fun z1 ez1 => ?_)
  clear ez1
  refine lv_iconst (v := 1) hx hb dX12_bit_3 (by decide) ?_
  refine lv_iand hx hb dX12_bit_4 ?_
  refine lv_topi (fun z2 ez2 => ?_)
  clear ez2
  refine lv_iconst (v := 1) hx hb dX12_bit_5 (by decide) ?_
  refine lv_icmp_ne (tgt := 13) hx hb dX12_bit_6 (by decide) (fun c3 => ?_) (fun c3 => ?_)
  · simp only [fa_lt, fa_le, fa_eq, ltv_0, ltv_1] at c3
    refine lv_iconst (v := 0) hx hb dX12_bit_13 (by decide) ?_
    have hP9 := hP.sub (ws' := []) [] rfl
    have hD9 := hD.sub (ws' := []) [] (by decide) rfl
    have hK9 := hK.sub (tys' := []) [] rfl
    exact W.zret (v := 0) hx hb hr rfl (fun t ht hW => ⟨⟨0, (), rfl, (by first | trivial | omega | (simp only [ltv_0]; omega)), by rw [ht]; exact hP9, va_K.moved hW.alike hK9, hD9⟩, hS.F ht⟩) hS.2.2 dX12_bit_14
  · simp only [fa_lt, fa_le, fa_eq, ltv_0, ltv_1] at c3
    refine lv_iconst (v := 1) hx hb dX12_bit_9 (by decide) ?_
    refine lv_goto (tgt := 14) hx hb dX12_bit_10 (by decide) ?_
    have hP9 := hP.sub (ws' := []) [] rfl
    have hD9 := hD.sub (ws' := []) [] (by decide) rfl
    have hK9 := hK.sub (tys' := []) [] rfl
    exact W.zret (v := 1) hx hb hr rfl (fun t ht hW => ⟨⟨1, (), rfl, (by first | trivial | omega | (simp only [ltv_0, ltv_1]; omega)), by rw [ht]; exact hP9, va_K.moved hW.alike hK9, hD9⟩, hS.F ht⟩) hS.2.2 dX12_bit_14
theorem dX12_apart_0 : decode cX12_apart 0 = .ok (.iload_n 0, 1) := by decide +kernel
theorem dX12_apart_1 : decode cX12_apart 1 = .ok (.iload_n 1, 1) := by decide +kernel
theorem dX12_apart_11 : decode cX12_apart 11 = .ok (.iload_n 0, 1) := by decide +kernel
theorem dX12_apart_12 : decode cX12_apart 12 = .ok (.iload_n 1, 1) := by decide +kernel
theorem dX12_apart_13 : decode cX12_apart 13 = .ok (.isub, 1) := by decide +kernel
theorem dX12_apart_14 : decode cX12_apart 14 = .ok (.ireturn, 1) := by decide +kernel
theorem dX12_apart_2 : decode cX12_apart 2 = .ok (.if_icmp .ge 9, 3) := by decide +kernel
theorem dX12_apart_5 : decode cX12_apart 5 = .ok (.iload_n 1, 1) := by decide +kernel
theorem dX12_apart_6 : decode cX12_apart 6 = .ok (.iload_n 0, 1) := by decide +kernel
theorem dX12_apart_7 : decode cX12_apart 7 = .ok (.isub, 1) := by decide +kernel
theorem dX12_apart_8 : decode cX12_apart 8 = .ok (.goto 6, 3) := by decide +kernel
def vX12_apart : List Cond := .code yX12_apart cX12_apart 2 (some .int) :: ([])
set_option maxHeartbeats 2000000 in
set_option maxRecDepth 100000 in
theorem kX12_apart (l : Launch) (dC : Nat → ClassId) (dI : Nat → Nat → Nat) (k0 : Int32) (k1 : Int32) (sz : Nat) : Met l yX12_apart vX12_apart ({ frames := 0, cells := 0, slots := 0, locals := 0 }) (PC (dC, dI) [.int k0, .int k1] sz [] []) (va_Qi (S := Unit) (fun (r : Int32) _ => True) (fun _ t => BC (dC, dI) (va_A [] sz) [] [] t) (va_A [] sz)) 0 0 (va_A [] sz) := by
  refine Met.ofW (cc := cX12_apart) (maxL := 2) (ret := (some .int)) (by decide) rfl ?_
  intro p e s m args below meth c s₁ B hml hv
  obtain ⟨rfl, hsz, hP, hK, hD0, hN⟩ := hv
  have hx := B.exec
  have hb := B.bytes
  have hr := B.returns
  have hts := atoms_spec (ws := vX12_apart) B.pre
  have hown : s.vm.findClass RX12 = some m.cls := findClass_of_methodNamed B.named
  have hlocks := B.notSynchronized
  subst hsz
  have hD := hD0.self (sz := s.heap.size)
  generalize hAe : va_A [] s.heap.size = A at hD ⊢
  have hA : ∀ q : Nat, s.heap.size ≤ q → A q := fun q h => by rw [← hAe]; exact Or.inr h
  have hS : va_S A s.heap s.heap [] := va_S.rf
  have hP : va_P (dC, dI) vwCl [] s.heap := hP
  have hl := lv_entry ([.int k0, .int k1]) (n := 2) (Nat.le_of_ble_eq_true rfl)
  rw [lg_entry_eq]
  generalize (lg_sl ([.int k0, .int k1]) ++ List.replicate (2 - (lg_sl ([.int k0, .int k1])).length) Slot.unset).toArray = ls at hl ⊢
  have hl : lv_has ls 2 [(0, .int k0), (1, .int k1)] := hl
  refine lv_iload_n hx hb dX12_apart_0 rfl (lv_at hl 0 rfl) ?_
  refine lv_iload_n hx hb dX12_apart_1 rfl (lv_at hl 1 rfl) ?_
  refine lv_icmp_ge (tgt := 11) hx hb dX12_apart_2 (by decide) (fun c1 => ?_) (fun c1 => ?_)
  · simp only [fa_lt, fa_le, fa_eq, ltv_0] at c1
    refine lv_iload_n hx hb dX12_apart_11 rfl (lv_at hl 0 rfl) ?_
    refine lv_iload_n hx hb dX12_apart_12 rfl (lv_at hl 1 rfl) ?_
    refine lv_isub hx hb dX12_apart_13 ?_
    refine lv_topi (fun z2 ez2 => ?_)
    clear ez2
    have hP9 := hP.sub (ws' := []) [] rfl
    have hD9 := hD.sub (ws' := []) [] (by decide) rfl
    have hK9 := hK.sub (tys' := []) [] rfl
    exact W.iret (v := z2) hx hb hr (fun t ht hW => ⟨⟨z2, (), rfl, trivial, by rw [ht]; exact hP9, va_K.moved hW.alike hK9, hD9⟩, hS.F ht⟩) hS.2.2 dX12_apart_14
  · simp only [fa_lt, fa_le, fa_eq, ltv_0] at c1
    refine lv_iload_n hx hb dX12_apart_5 rfl (lv_at hl 1 rfl) ?_
    refine lv_iload_n hx hb dX12_apart_6 rfl (lv_at hl 0 rfl) ?_
    refine lv_isub hx hb dX12_apart_7 ?_
    refine lv_topi (fun z3 ez3 => ?_)
    clear ez3
    refine lv_goto (tgt := 14) hx hb dX12_apart_8 (by decide) ?_
    have hP9 := hP.sub (ws' := []) [] rfl
    have hD9 := hD.sub (ws' := []) [] (by decide) rfl
    have hK9 := hK.sub (tys' := []) [] rfl
    exact W.iret (v := z3) hx hb hr (fun t ht hW => ⟨⟨z3, (), rfl, trivial, by rw [ht]; exact hP9, va_K.moved hW.alike hK9, hD9⟩, hS.F ht⟩) hS.2.2 dX12_apart_14
theorem dX12_refused_0 : decode cX12_refused 0 = .ok (.aload_n 0, 1) := by decide +kernel
theorem dX12_refused_1 : decode cX12_refused 1 = .ok (.iload_n 1, 1) := by decide +kernel
theorem dX12_refused_10 : decode cX12_refused 10 = .ok (.iconst (-1), 1) := by decide +kernel
theorem dX12_refused_11 : decode cX12_refused 11 = .ok (.ireturn, 1) := by decide +kernel
theorem dX12_refused_2 : decode cX12_refused 2 = .ok (.putfield 39, 3) := by decide +kernel
theorem dX12_refused_5 : decode cX12_refused 5 = .ok (.aload_n 0, 1) := by decide +kernel
theorem dX12_refused_6 : decode cX12_refused 6 = .ok (.iconst (-1), 1) := by decide +kernel
theorem dX12_refused_7 : decode cX12_refused 7 = .ok (.putfield 9, 3) := by decide +kernel
def vX12_refused : List Cond := .code yX12_refused cX12_refused 2 (some .int) :: ([.fieldLink RX12 39 "HookPierModel" "trouble" "I", .fieldLink RX12 9 "HookPierModel" "where" "I"] ++ wsX120)
theorem iX12_refused_X12 : ∀ w ∈ wsX120, w ∈ vX12_refused := fun _ h => List.mem_cons_of_mem _ (List.mem_append_right _ h)
set_option maxHeartbeats 2000000 in
set_option maxRecDepth 100000 in
theorem kX12_refused (l : Launch) (dC : Nat → ClassId) (dI : Nat → Nat → Nat) (a0 : Nat) (k1 : Int32) (g2 : Value) (k3 : Int32) (k4 : Int32) (g5 : Value) (g6 : Value) (g7 : Value) (g8 : Value) (g9 : Value) (g10 : Value) (g11 : Value) (g12 : Value) (g13 : Value) (g14 : Value) (g15 : Value) (g16 : Value) (g17 : Value) (g18 : Value) (g19 : Value) (g20 : Value) (g21 : Value) (g22 : Value) (g23 : Value) (g24 : Value) (g25 : Value) (g26 : Value) (g27 : Value) (g28 : Value) (g29 : Value) (g30 : Value) (g31 : Value) (sz : Nat) : Met l yX12_refused vX12_refused ({ frames := 0, cells := 0, slots := 0, locals := 0 }) (PC (dC, dI) [.ref a0, .int k1] sz [(a0, .inr (9, [g2, .int k3, .int k4, g5, g6, g7, g8, g9, g10, g11, g12, g13, g14, g15, g16, g17, g18, g19, g20, g21, g22, g23, g24, g25, g26, g27, g28, g29, g30, g31]))] []) (va_Qi (S := Int32) (fun (r : Int32) u => r = (-1)) (fun u t => BC (dC, dI) (va_A [(a0, .inr (9, [g2, .int k3, .int k4, g5, g6, g7, g8, g9, g10, g11, g12, g13, g14, g15, g16, g17, g18, g19, g20, g21, g22, g23, g24, g25, g26, g27, g28, g29, g30, g31]))] sz) [(a0, .inr (9, [g2, .int u, .int (-1), g5, g6, g7, g8, g9, g10, g11, g12, g13, g14, g15, g16, g17, g18, g19, g20, g21, g22, g23, g24, g25, g26, g27, g28, g29, g30, g31]))] [] t) (va_A [(a0, .inr (9, [g2, .int k3, .int k4, g5, g6, g7, g8, g9, g10, g11, g12, g13, g14, g15, g16, g17, g18, g19, g20, g21, g22, g23, g24, g25, g26, g27, g28, g29, g30, g31]))] sz)) 0 0 (va_A [(a0, .inr (9, [g2, .int k3, .int k4, g5, g6, g7, g8, g9, g10, g11, g12, g13, g14, g15, g16, g17, g18, g19, g20, g21, g22, g23, g24, g25, g26, g27, g28, g29, g30, g31]))] sz) := by
  refine Met.ofW (cc := cX12_refused) (maxL := 2) (ret := (some .int)) (by decide) rfl ?_
  intro p e s m args below meth c s₁ B hml hv
  obtain ⟨rfl, hsz, hP, hK, hD0, hN⟩ := hv
  have hx := B.exec
  have hb := B.bytes
  have hr := B.returns
  have hts := atoms_spec (ws := vX12_refused) B.pre
  have hown : s.vm.findClass RX12 = some m.cls := findClass_of_methodNamed B.named
  have hlocks := B.notSynchronized
  subst hsz
  have hD := hD0.self (sz := s.heap.size)
  generalize hAe : va_A [(a0, .inr (9, [g2, .int k3, .int k4, g5, g6, g7, g8, g9, g10, g11, g12, g13, g14, g15, g16, g17, g18, g19, g20, g21, g22, g23, g24, g25, g26, g27, g28, g29, g30, g31]))] s.heap.size = A at hD ⊢
  have hA : ∀ q : Nat, s.heap.size ≤ q → A q := fun q h => by rw [← hAe]; exact Or.inr h
  have hS : va_S A s.heap s.heap [] := va_S.rf
  have hP : va_P (dC, dI) vwCl [(a0, .inr (9, [g2, .int k3, .int k4, g5, g6, g7, g8, g9, g10, g11, g12, g13, g14, g15, g16, g17, g18, g19, g20, g21, g22, g23, g24, g25, g26, g27, g28, g29, g30, g31]))] s.heap := hP
  have hl := lv_entry ([.ref a0, .int k1]) (n := 2) (Nat.le_of_ble_eq_true rfl)
  rw [lg_entry_eq]
  generalize (lg_sl ([.ref a0, .int k1]) ++ List.replicate (2 - (lg_sl ([.ref a0, .int k1])).length) Slot.unset).toArray = ls at hl ⊢
  have hl : lv_has ls 2 [(0, .ref a0), (1, .int k1)] := hl
  refine lv_aload_n hx hb dX12_refused_0 rfl (lv_at hl 0 rfl) ?_
  refine lv_iload_n hx hb dX12_refused_1 rfl (lv_at hl 1 rfl) ?_
  refine va_put (D := (dC, dI)) (ci := 9) (v := .int k1) (ty := .int) (C := RX12) (T := TX12) (N := 30) hx hb hts iX12_refused_X12 tyX12 tyX12_ok nmX12 hown hK hP hD hS 0 rfl rfl 1 (by decide) (hts (.fieldLink RX12 39 "HookPierModel" "trouble" "I") (List.mem_of_getElem? (i := 1) rfl)) (fun _ h9 => h9) rfl (by decide +kernel) rfl rfl (Nat.le_of_ble_eq_true rfl) dX12_refused_2 (fun H locs hP hD hS => ?_)
  have hP : va_P (dC, dI) vwCl [(a0, .inr (9, [g2, .int k1, .int k4, g5, g6, g7, g8, g9, g10, g11, g12, g13, g14, g15, g16, g17, g18, g19, g20, g21, g22, g23, g24, g25, g26, g27, g28, g29, g30, g31]))] H := hP
  have hD : va_D A [(a0, .inr (9, [g2, .int k1, .int k4, g5, g6, g7, g8, g9, g10, g11, g12, g13, g14, g15, g16, g17, g18, g19, g20, g21, g22, g23, g24, g25, g26, g27, g28, g29, g30, g31]))] := hD
  refine lv_aload_n hx hb dX12_refused_5 rfl (lv_at hl 0 rfl) ?_
  refine lv_iconst (v := (-1)) hx hb dX12_refused_6 (by decide) ?_
  refine va_put (D := (dC, dI)) (ci := 9) (v := .int (-1)) (ty := .int) (C := RX12) (T := TX12) (N := 30) hx hb hts iX12_refused_X12 tyX12 tyX12_ok nmX12 hown hK hP hD hS 0 rfl rfl 2 (by decide) (hts (.fieldLink RX12 9 "HookPierModel" "where" "I") (List.mem_of_getElem? (i := 2) rfl)) (fun _ h9 => h9) rfl (by decide +kernel) rfl rfl (Nat.le_of_ble_eq_true rfl) dX12_refused_7 (fun H locs hP hD hS => ?_)
  have hP : va_P (dC, dI) vwCl [(a0, .inr (9, [g2, .int k1, .int (-1), g5, g6, g7, g8, g9, g10, g11, g12, g13, g14, g15, g16, g17, g18, g19, g20, g21, g22, g23, g24, g25, g26, g27, g28, g29, g30, g31]))] H := hP
  have hD : va_D A [(a0, .inr (9, [g2, .int k1, .int (-1), g5, g6, g7, g8, g9, g10, g11, g12, g13, g14, g15, g16, g17, g18, g19, g20, g21, g22, g23, g24, g25, g26, g27, g28, g29, g30, g31]))] := hD
  refine lv_iconst (v := (-1)) hx hb dX12_refused_10 (by decide) ?_
  have hP9 := hP.sub (ws' := [(a0, .inr (9, [g2, .int k1, .int (-1), g5, g6, g7, g8, g9, g10, g11, g12, g13, g14, g15, g16, g17, g18, g19, g20, g21, g22, g23, g24, g25, g26, g27, g28, g29, g30, g31]))]) [0] rfl
  have hD9 := hD.sub (ws' := [(a0, .inr (9, [g2, .int k1, .int (-1), g5, g6, g7, g8, g9, g10, g11, g12, g13, g14, g15, g16, g17, g18, g19, g20, g21, g22, g23, g24, g25, g26, g27, g28, g29, g30, g31]))]) [0] (by decide) rfl
  have hK9 := hK.sub (tys' := []) [] rfl
  exact W.iret (v := (-1)) hx hb hr (fun t ht hW => ⟨⟨(-1), k1, rfl, rfl, by rw [ht]; exact hP9, va_K.moved hW.alike hK9, hD9⟩, hS.F ht⟩) hS.2.2 dX12_refused_11
theorem dX12_lost_0 : decode cX12_lost 0 = .ok (.aload_n 0, 1) := by decide +kernel
theorem dX12_lost_1 : decode cX12_lost 1 = .ok (.iload_n 1, 1) := by decide +kernel
theorem dX12_lost_2 : decode cX12_lost 2 = .ok (.invokevirtual 42, 3) := by decide +kernel
theorem dX12_lost_5 : decode cX12_lost 5 = .ok (.pop, 1) := by decide +kernel
theorem dX12_lost_6 : decode cX12_lost 6 = .ok (.bipush (-100), 2) := by decide +kernel
theorem dX12_lost_8 : decode cX12_lost 8 = .ok (.ireturn, 1) := by decide +kernel
def vX12_lost : List Cond := .code yX12_lost cX12_lost 2 (some .int) :: ([.methodLink RX12 42 yX12_refused, .instanceMethod yX12_refused, .selects RX12 yX12_refused yX12_refused, .initialized RX12, .code yX12_refused cX12_refused 2 (some .int), .fieldLink RX12 39 "HookPierModel" "trouble" "I", .fieldLink RX12 9 "HookPierModel" "where" "I"] ++ wsX120)
theorem iX12_lost_X12 : ∀ w ∈ wsX120, w ∈ vX12_lost := fun _ h => List.mem_cons_of_mem _ (List.mem_append_right _ h)
set_option maxRecDepth 20000 in
theorem gX12_lost_0 : GoodIn vX12_lost (wsV RX12 42 RX12 yX12_refused vX12_refused) := goodIn_app (goodIn_r [.methodLink RX12 42 yX12_refused, .instanceMethod yX12_refused, .selects RX12 yX12_refused yX12_refused, .initialized RX12] [1, 2, 3, 4] (by decide +kernel) (by decide +kernel)) (goodIn_ca (goodIn_r (.code yX12_refused cX12_refused 2 (some .int) :: [.fieldLink RX12 39 "HookPierModel" "trouble" "I", .fieldLink RX12 9 "HookPierModel" "where" "I"]) [5, 6, 7] (by decide +kernel) (by decide +kernel) : GoodIn vX12_lost (.code yX12_refused cX12_refused 2 (some .int) :: [.fieldLink RX12 39 "HookPierModel" "trouble" "I", .fieldLink RX12 9 "HookPierModel" "where" "I"])) (goodIn_sub iX12_lost_X12 (by decide +kernel)))
set_option maxHeartbeats 2000000 in
set_option maxRecDepth 100000 in
theorem kX12_lost (l : Launch) (dC : Nat → ClassId) (dI : Nat → Nat → Nat) (a0 : Nat) (k1 : Int32) (g2 : Value) (k3 : Int32) (k4 : Int32) (g5 : Value) (g6 : Value) (g7 : Value) (g8 : Value) (g9 : Value) (g10 : Value) (g11 : Value) (g12 : Value) (g13 : Value) (g14 : Value) (g15 : Value) (g16 : Value) (g17 : Value) (g18 : Value) (g19 : Value) (g20 : Value) (g21 : Value) (g22 : Value) (g23 : Value) (g24 : Value) (g25 : Value) (g26 : Value) (g27 : Value) (g28 : Value) (g29 : Value) (g30 : Value) (g31 : Value) (sz : Nat) : Met l yX12_lost vX12_lost ({ frames := 1, cells := 0, slots := 0, locals := 21 }) (PC (dC, dI) [.ref a0, .int k1] sz [(a0, .inr (9, [g2, .int k3, .int k4, g5, g6, g7, g8, g9, g10, g11, g12, g13, g14, g15, g16, g17, g18, g19, g20, g21, g22, g23, g24, g25, g26, g27, g28, g29, g30, g31]))] []) (va_Qi (S := Int32) (fun (r : Int32) u => r = (-100)) (fun u t => BC (dC, dI) (va_A [(a0, .inr (9, [g2, .int k3, .int k4, g5, g6, g7, g8, g9, g10, g11, g12, g13, g14, g15, g16, g17, g18, g19, g20, g21, g22, g23, g24, g25, g26, g27, g28, g29, g30, g31]))] sz) [(a0, .inr (9, [g2, .int u, .int (-1), g5, g6, g7, g8, g9, g10, g11, g12, g13, g14, g15, g16, g17, g18, g19, g20, g21, g22, g23, g24, g25, g26, g27, g28, g29, g30, g31]))] [] t) (va_A [(a0, .inr (9, [g2, .int k3, .int k4, g5, g6, g7, g8, g9, g10, g11, g12, g13, g14, g15, g16, g17, g18, g19, g20, g21, g22, g23, g24, g25, g26, g27, g28, g29, g30, g31]))] sz)) 0 0 (va_A [(a0, .inr (9, [g2, .int k3, .int k4, g5, g6, g7, g8, g9, g10, g11, g12, g13, g14, g15, g16, g17, g18, g19, g20, g21, g22, g23, g24, g25, g26, g27, g28, g29, g30, g31]))] sz) := by
  refine Met.ofW (cc := cX12_lost) (maxL := 2) (ret := (some .int)) (by decide) rfl ?_
  intro p e s m args below meth c s₁ B hml hv
  obtain ⟨rfl, hsz, hP, hK, hD0, hN⟩ := hv
  have hx := B.exec
  have hb := B.bytes
  have hr := B.returns
  have hts := atoms_spec (ws := vX12_lost) B.pre
  have hown : s.vm.findClass RX12 = some m.cls := findClass_of_methodNamed B.named
  have hlocks := B.notSynchronized
  subst hsz
  have hD := hD0.self (sz := s.heap.size)
  generalize hAe : va_A [(a0, .inr (9, [g2, .int k3, .int k4, g5, g6, g7, g8, g9, g10, g11, g12, g13, g14, g15, g16, g17, g18, g19, g20, g21, g22, g23, g24, g25, g26, g27, g28, g29, g30, g31]))] s.heap.size = A at hD ⊢
  have hA : ∀ q : Nat, s.heap.size ≤ q → A q := fun q h => by rw [← hAe]; exact Or.inr h
  have hS : va_S A s.heap s.heap [] := va_S.rf
  have hP : va_P (dC, dI) vwCl [(a0, .inr (9, [g2, .int k3, .int k4, g5, g6, g7, g8, g9, g10, g11, g12, g13, g14, g15, g16, g17, g18, g19, g20, g21, g22, g23, g24, g25, g26, g27, g28, g29, g30, g31]))] s.heap := hP
  have hl := lv_entry ([.ref a0, .int k1]) (n := 2) (Nat.le_of_ble_eq_true rfl)
  rw [lg_entry_eq]
  generalize (lg_sl ([.ref a0, .int k1]) ++ List.replicate (2 - (lg_sl ([.ref a0, .int k1])).length) Slot.unset).toArray = ls at hl ⊢
  have hl : lv_has ls 2 [(0, .ref a0), (1, .int k1)] := hl
  refine lv_aload_n hx hb dX12_lost_0 rfl (lv_at hl 0 rfl) ?_
  refine lv_iload_n hx hb dX12_lost_1 rfl (lv_at hl 1 rfl) ?_
  refine cl_i (wc := [(a0, .inr (9, [g2, .int k3, .int k4, g5, g6, g7, g8, g9, g10, g11, g12, g13, g14, g15, g16, g17, g18, g19, g20, g21, g22, g23, g24, g25, g26, g27, g28, g29, g30, g31]))]) (wr := []) (va_runV (As := [.int k1]) (rest := []) ⟨hx, hb, hml, hown, hts⟩ (kX12_refused l dC dI a0 k1 (g2) k3 k4 (g5) (g6) (g7) (g8) (g9) (g10) (g11) (g12) (g13) (g14) (g15) (g16) (g17) (g18) (g19) (g20) (g21) (g22) (g23) (g24) (g25) (g26) (g27) (g28) (g29) (g30) (g31)  s.heap.size) (cwV 1 hts gX12_lost_0 rfl rfl rfl (by decide +kernel) ⟨Nat.le_of_ble_eq_true rfl, Nat.le_of_ble_eq_true rfl⟩) (PV (hP.sub (ws' := [(a0, .inr (9, [g2, .int k3, .int k4, g5, g6, g7, g8, g9, g10, g11, g12, g13, g14, g15, g16, g17, g18, g19, g20, g21, g22, g23, g24, g25, g26, g27, g28, g29, g30, g31]))]) [0] rfl) (hK.sub (tys' := []) [] rfl) (hD.sub (ws' := [(a0, .inr (9, [g2, .int k3, .int k4, g5, g6, g7, g8, g9, g10, g11, g12, g13, g14, g15, g16, g17, g18, g19, g20, g21, g22, g23, g24, g25, g26, g27, g28, g29, g30, g31]))]) [0] (by decide) rfl) hN 0 rfl rfl) rfl rfl hl.1 rfl (lv_room (Nat.le_of_ble_eq_true rfl)) dX12_lost_2 ⟨Nat.le_of_ble_eq_true rfl, Nat.le_of_ble_eq_true rfl⟩) hP hD hK hS hA [0] [] rfl rfl (by decide) (by decide) (fun z2 z1 H locs hw hP hD hK hS => ?_)
  have b3 := hw
  have hP : va_P (dC, dI) vwCl [(a0, .inr (9, [g2, .int z1, .int (-1), g5, g6, g7, g8, g9, g10, g11, g12, g13, g14, g15, g16, g17, g18, g19, g20, g21, g22, g23, g24, g25, g26, g27, g28, g29, g30, g31]))] H := hP
  have hD : va_D A [(a0, .inr (9, [g2, .int z1, .int (-1), g5, g6, g7, g8, g9, g10, g11, g12, g13, g14, g15, g16, g17, g18, g19, g20, g21, g22, g23, g24, g25, g26, g27, g28, g29, g30, g31]))] := hD
  have hK : va_K (dC, dI) vwCl [] s := hK
  obtain rfl : z2 = (-1) := hw
  refine lv_pop hx hb dX12_lost_5 rfl ?_
  refine lv_bipush (v := (-100)) hx hb dX12_lost_6 (by decide) ?_
  have hP9 := hP.sub (ws' := [(a0, .inr (9, [g2, .int z1, .int (-1), g5, g6, g7, g8, g9, g10, g11, g12, g13, g14, g15, g16, g17, g18, g19, g20, g21, g22, g23, g24, g25, g26, g27, g28, g29, g30, g31]))]) [0] rfl
  have hD9 := hD.sub (ws' := [(a0, .inr (9, [g2, .int z1, .int (-1), g5, g6, g7, g8, g9, g10, g11, g12, g13, g14, g15, g16, g17, g18, g19, g20, g21, g22, g23, g24, g25, g26, g27, g28, g29, g30, g31]))]) [0] (by decide) rfl
  have hK9 := hK.sub (tys' := []) [] rfl
  exact W.iret (v := (-100)) hx hb hr (fun t ht hW => ⟨⟨(-100), z1, rfl, rfl, by rw [ht]; exact hP9, va_K.moved hW.alike hK9, hD9⟩, hS.F ht⟩) hS.2.2 dX12_lost_8
theorem dX12_denied_0 : decode cX12_denied 0 = .ok (.aload_n 0, 1) := by decide +kernel
theorem dX12_denied_1 : decode cX12_denied 1 = .ok (.iload_n 1, 1) := by decide +kernel
theorem dX12_denied_2 : decode cX12_denied 2 = .ok (.invokevirtual 42, 3) := by decide +kernel
theorem dX12_denied_5 : decode cX12_denied 5 = .ok (.pop, 1) := by decide +kernel
theorem dX12_denied_6 : decode cX12_denied 6 = .ok (.iconst 0, 1) := by decide +kernel
theorem dX12_denied_7 : decode cX12_denied 7 = .ok (.ireturn, 1) := by decide +kernel
def vX12_denied : List Cond := .code yX12_denied cX12_denied 2 (some .boolean) :: ([.methodLink RX12 42 yX12_refused, .instanceMethod yX12_refused, .selects RX12 yX12_refused yX12_refused, .initialized RX12, .code yX12_refused cX12_refused 2 (some .int), .fieldLink RX12 39 "HookPierModel" "trouble" "I", .fieldLink RX12 9 "HookPierModel" "where" "I"] ++ wsX120)
theorem iX12_denied_X12 : ∀ w ∈ wsX120, w ∈ vX12_denied := fun _ h => List.mem_cons_of_mem _ (List.mem_append_right _ h)
set_option maxRecDepth 20000 in
theorem gX12_denied_0 : GoodIn vX12_denied (wsV RX12 42 RX12 yX12_refused vX12_refused) := goodIn_app (goodIn_r [.methodLink RX12 42 yX12_refused, .instanceMethod yX12_refused, .selects RX12 yX12_refused yX12_refused, .initialized RX12] [1, 2, 3, 4] (by decide +kernel) (by decide +kernel)) (goodIn_ca (goodIn_r (.code yX12_refused cX12_refused 2 (some .int) :: [.fieldLink RX12 39 "HookPierModel" "trouble" "I", .fieldLink RX12 9 "HookPierModel" "where" "I"]) [5, 6, 7] (by decide +kernel) (by decide +kernel) : GoodIn vX12_denied (.code yX12_refused cX12_refused 2 (some .int) :: [.fieldLink RX12 39 "HookPierModel" "trouble" "I", .fieldLink RX12 9 "HookPierModel" "where" "I"])) (goodIn_sub iX12_denied_X12 (by decide +kernel)))
set_option maxHeartbeats 2000000 in
set_option maxRecDepth 100000 in
theorem kX12_denied (l : Launch) (dC : Nat → ClassId) (dI : Nat → Nat → Nat) (a0 : Nat) (k1 : Int32) (g2 : Value) (k3 : Int32) (k4 : Int32) (g5 : Value) (g6 : Value) (g7 : Value) (g8 : Value) (g9 : Value) (g10 : Value) (g11 : Value) (g12 : Value) (g13 : Value) (g14 : Value) (g15 : Value) (g16 : Value) (g17 : Value) (g18 : Value) (g19 : Value) (g20 : Value) (g21 : Value) (g22 : Value) (g23 : Value) (g24 : Value) (g25 : Value) (g26 : Value) (g27 : Value) (g28 : Value) (g29 : Value) (g30 : Value) (g31 : Value) (sz : Nat) : Met l yX12_denied vX12_denied ({ frames := 1, cells := 0, slots := 0, locals := 21 }) (PC (dC, dI) [.ref a0, .int k1] sz [(a0, .inr (9, [g2, .int k3, .int k4, g5, g6, g7, g8, g9, g10, g11, g12, g13, g14, g15, g16, g17, g18, g19, g20, g21, g22, g23, g24, g25, g26, g27, g28, g29, g30, g31]))] []) (va_Qi (S := Int32) (fun (r : Int32) u => r = 0) (fun u t => BC (dC, dI) (va_A [(a0, .inr (9, [g2, .int k3, .int k4, g5, g6, g7, g8, g9, g10, g11, g12, g13, g14, g15, g16, g17, g18, g19, g20, g21, g22, g23, g24, g25, g26, g27, g28, g29, g30, g31]))] sz) [(a0, .inr (9, [g2, .int u, .int (-1), g5, g6, g7, g8, g9, g10, g11, g12, g13, g14, g15, g16, g17, g18, g19, g20, g21, g22, g23, g24, g25, g26, g27, g28, g29, g30, g31]))] [] t) (va_A [(a0, .inr (9, [g2, .int k3, .int k4, g5, g6, g7, g8, g9, g10, g11, g12, g13, g14, g15, g16, g17, g18, g19, g20, g21, g22, g23, g24, g25, g26, g27, g28, g29, g30, g31]))] sz)) 0 0 (va_A [(a0, .inr (9, [g2, .int k3, .int k4, g5, g6, g7, g8, g9, g10, g11, g12, g13, g14, g15, g16, g17, g18, g19, g20, g21, g22, g23, g24, g25, g26, g27, g28, g29, g30, g31]))] sz) := by
  refine Met.ofW (cc := cX12_denied) (maxL := 2) (ret := (some .boolean)) (by decide) rfl ?_
  intro p e s m args below meth c s₁ B hml hv
  obtain ⟨rfl, hsz, hP, hK, hD0, hN⟩ := hv
  have hx := B.exec
  have hb := B.bytes
  have hr := B.returns
  have hts := atoms_spec (ws := vX12_denied) B.pre
  have hown : s.vm.findClass RX12 = some m.cls := findClass_of_methodNamed B.named
  have hlocks := B.notSynchronized
  subst hsz
  have hD := hD0.self (sz := s.heap.size)
  generalize hAe : va_A [(a0, .inr (9, [g2, .int k3, .int k4, g5, g6, g7, g8, g9, g10, g11, g12, g13, g14, g15, g16, g17, g18, g19, g20, g21, g22, g23, g24, g25, g26, g27, g28, g29, g30, g31]))] s.heap.size = A at hD ⊢
  have hA : ∀ q : Nat, s.heap.size ≤ q → A q := fun q h => by rw [← hAe]; exact Or.inr h
  have hS : va_S A s.heap s.heap [] := va_S.rf
  have hP : va_P (dC, dI) vwCl [(a0, .inr (9, [g2, .int k3, .int k4, g5, g6, g7, g8, g9, g10, g11, g12, g13, g14, g15, g16, g17, g18, g19, g20, g21, g22, g23, g24, g25, g26, g27, g28, g29, g30, g31]))] s.heap := hP
  have hl := lv_entry ([.ref a0, .int k1]) (n := 2) (Nat.le_of_ble_eq_true rfl)
  rw [lg_entry_eq]
  generalize (lg_sl ([.ref a0, .int k1]) ++ List.replicate (2 - (lg_sl ([.ref a0, .int k1])).length) Slot.unset).toArray = ls at hl ⊢
  have hl : lv_has ls 2 [(0, .ref a0), (1, .int k1)] := hl
  refine lv_aload_n hx hb dX12_denied_0 rfl (lv_at hl 0 rfl) ?_
  refine lv_iload_n hx hb dX12_denied_1 rfl (lv_at hl 1 rfl) ?_
  refine cl_i (wc := [(a0, .inr (9, [g2, .int k3, .int k4, g5, g6, g7, g8, g9, g10, g11, g12, g13, g14, g15, g16, g17, g18, g19, g20, g21, g22, g23, g24, g25, g26, g27, g28, g29, g30, g31]))]) (wr := []) (va_runV (As := [.int k1]) (rest := []) ⟨hx, hb, hml, hown, hts⟩ (kX12_refused l dC dI a0 k1 (g2) k3 k4 (g5) (g6) (g7) (g8) (g9) (g10) (g11) (g12) (g13) (g14) (g15) (g16) (g17) (g18) (g19) (g20) (g21) (g22) (g23) (g24) (g25) (g26) (g27) (g28) (g29) (g30) (g31)  s.heap.size) (cwV 1 hts gX12_denied_0 rfl rfl rfl (by decide +kernel) ⟨Nat.le_of_ble_eq_true rfl, Nat.le_of_ble_eq_true rfl⟩) (PV (hP.sub (ws' := [(a0, .inr (9, [g2, .int k3, .int k4, g5, g6, g7, g8, g9, g10, g11, g12, g13, g14, g15, g16, g17, g18, g19, g20, g21, g22, g23, g24, g25, g26, g27, g28, g29, g30, g31]))]) [0] rfl) (hK.sub (tys' := []) [] rfl) (hD.sub (ws' := [(a0, .inr (9, [g2, .int k3, .int k4, g5, g6, g7, g8, g9, g10, g11, g12, g13, g14, g15, g16, g17, g18, g19, g20, g21, g22, g23, g24, g25, g26, g27, g28, g29, g30, g31]))]) [0] (by decide) rfl) hN 0 rfl rfl) rfl rfl hl.1 rfl (lv_room (Nat.le_of_ble_eq_true rfl)) dX12_denied_2 ⟨Nat.le_of_ble_eq_true rfl, Nat.le_of_ble_eq_true rfl⟩) hP hD hK hS hA [0] [] rfl rfl (by decide) (by decide) (fun z2 z1 H locs hw hP hD hK hS => ?_)
  have b3 := hw
  have hP : va_P (dC, dI) vwCl [(a0, .inr (9, [g2, .int z1, .int (-1), g5, g6, g7, g8, g9, g10, g11, g12, g13, g14, g15, g16, g17, g18, g19, g20, g21, g22, g23, g24, g25, g26, g27, g28, g29, g30, g31]))] H := hP
  have hD : va_D A [(a0, .inr (9, [g2, .int z1, .int (-1), g5, g6, g7, g8, g9, g10, g11, g12, g13, g14, g15, g16, g17, g18, g19, g20, g21, g22, g23, g24, g25, g26, g27, g28, g29, g30, g31]))] := hD
  have hK : va_K (dC, dI) vwCl [] s := hK
  obtain rfl : z2 = (-1) := hw
  refine lv_pop hx hb dX12_denied_5 rfl ?_
  refine lv_iconst (v := 0) hx hb dX12_denied_6 (by decide) ?_
  have hP9 := hP.sub (ws' := [(a0, .inr (9, [g2, .int z1, .int (-1), g5, g6, g7, g8, g9, g10, g11, g12, g13, g14, g15, g16, g17, g18, g19, g20, g21, g22, g23, g24, g25, g26, g27, g28, g29, g30, g31]))]) [0] rfl
  have hD9 := hD.sub (ws' := [(a0, .inr (9, [g2, .int z1, .int (-1), g5, g6, g7, g8, g9, g10, g11, g12, g13, g14, g15, g16, g17, g18, g19, g20, g21, g22, g23, g24, g25, g26, g27, g28, g29, g30, g31]))]) [0] (by decide) rfl
  have hK9 := hK.sub (tys' := []) [] rfl
  exact W.zret (v := 0) hx hb hr rfl (fun t ht hW => ⟨⟨0, z1, rfl, rfl, by rw [ht]; exact hP9, va_K.moved hW.alike hK9, hD9⟩, hS.F ht⟩) hS.2.2 dX12_denied_7
theorem dX12_good_0 : decode cX12_good 0 = .ok (.aload_n 0, 1) := by decide +kernel
theorem dX12_good_1 : decode cX12_good 1 = .ok (.iconst 0, 1) := by decide +kernel
theorem dX12_good_10 : decode cX12_good 10 = .ok (.iload_n 1, 1) := by decide +kernel
theorem dX12_good_11 : decode cX12_good 11 = .ok (.ireturn, 1) := by decide +kernel
theorem dX12_good_2 : decode cX12_good 2 = .ok (.putfield 39, 3) := by decide +kernel
theorem dX12_good_5 : decode cX12_good 5 = .ok (.aload_n 0, 1) := by decide +kernel
theorem dX12_good_6 : decode cX12_good 6 = .ok (.iconst (-1), 1) := by decide +kernel
theorem dX12_good_7 : decode cX12_good 7 = .ok (.putfield 9, 3) := by decide +kernel
def vX12_good : List Cond := .code yX12_good cX12_good 2 (some .int) :: ([.fieldLink RX12 39 "HookPierModel" "trouble" "I", .fieldLink RX12 9 "HookPierModel" "where" "I"] ++ wsX120)
theorem iX12_good_X12 : ∀ w ∈ wsX120, w ∈ vX12_good := fun _ h => List.mem_cons_of_mem _ (List.mem_append_right _ h)
set_option maxHeartbeats 2000000 in
set_option maxRecDepth 100000 in
theorem kX12_good (l : Launch) (dC : Nat → ClassId) (dI : Nat → Nat → Nat) (a0 : Nat) (k1 : Int32) (g2 : Value) (k3 : Int32) (k4 : Int32) (g5 : Value) (g6 : Value) (g7 : Value) (g8 : Value) (g9 : Value) (g10 : Value) (g11 : Value) (g12 : Value) (g13 : Value) (g14 : Value) (g15 : Value) (g16 : Value) (g17 : Value) (g18 : Value) (g19 : Value) (g20 : Value) (g21 : Value) (g22 : Value) (g23 : Value) (g24 : Value) (g25 : Value) (g26 : Value) (g27 : Value) (g28 : Value) (g29 : Value) (g30 : Value) (g31 : Value) (sz : Nat) : Met l yX12_good vX12_good ({ frames := 0, cells := 0, slots := 0, locals := 0 }) (PC (dC, dI) [.ref a0, .int k1] sz [(a0, .inr (9, [g2, .int k3, .int k4, g5, g6, g7, g8, g9, g10, g11, g12, g13, g14, g15, g16, g17, g18, g19, g20, g21, g22, g23, g24, g25, g26, g27, g28, g29, g30, g31]))] []) (va_Qi (S := Unit) (fun (r : Int32) _ => True) (fun _ t => BC (dC, dI) (va_A [(a0, .inr (9, [g2, .int k3, .int k4, g5, g6, g7, g8, g9, g10, g11, g12, g13, g14, g15, g16, g17, g18, g19, g20, g21, g22, g23, g24, g25, g26, g27, g28, g29, g30, g31]))] sz) [(a0, .inr (9, [g2, .int 0, .int (-1), g5, g6, g7, g8, g9, g10, g11, g12, g13, g14, g15, g16, g17, g18, g19, g20, g21, g22, g23, g24, g25, g26, g27, g28, g29, g30, g31]))] [] t) (va_A [(a0, .inr (9, [g2, .int k3, .int k4, g5, g6, g7, g8, g9, g10, g11, g12, g13, g14, g15, g16, g17, g18, g19, g20, g21, g22, g23, g24, g25, g26, g27, g28, g29, g30, g31]))] sz)) 0 0 (va_A [(a0, .inr (9, [g2, .int k3, .int k4, g5, g6, g7, g8, g9, g10, g11, g12, g13, g14, g15, g16, g17, g18, g19, g20, g21, g22, g23, g24, g25, g26, g27, g28, g29, g30, g31]))] sz) := by
  refine Met.ofW (cc := cX12_good) (maxL := 2) (ret := (some .int)) (by decide) rfl ?_
  intro p e s m args below meth c s₁ B hml hv
  obtain ⟨rfl, hsz, hP, hK, hD0, hN⟩ := hv
  have hx := B.exec
  have hb := B.bytes
  have hr := B.returns
  have hts := atoms_spec (ws := vX12_good) B.pre
  have hown : s.vm.findClass RX12 = some m.cls := findClass_of_methodNamed B.named
  have hlocks := B.notSynchronized
  subst hsz
  have hD := hD0.self (sz := s.heap.size)
  generalize hAe : va_A [(a0, .inr (9, [g2, .int k3, .int k4, g5, g6, g7, g8, g9, g10, g11, g12, g13, g14, g15, g16, g17, g18, g19, g20, g21, g22, g23, g24, g25, g26, g27, g28, g29, g30, g31]))] s.heap.size = A at hD ⊢
  have hA : ∀ q : Nat, s.heap.size ≤ q → A q := fun q h => by rw [← hAe]; exact Or.inr h
  have hS : va_S A s.heap s.heap [] := va_S.rf
  have hP : va_P (dC, dI) vwCl [(a0, .inr (9, [g2, .int k3, .int k4, g5, g6, g7, g8, g9, g10, g11, g12, g13, g14, g15, g16, g17, g18, g19, g20, g21, g22, g23, g24, g25, g26, g27, g28, g29, g30, g31]))] s.heap := hP
  have hl := lv_entry ([.ref a0, .int k1]) (n := 2) (Nat.le_of_ble_eq_true rfl)
  rw [lg_entry_eq]
  generalize (lg_sl ([.ref a0, .int k1]) ++ List.replicate (2 - (lg_sl ([.ref a0, .int k1])).length) Slot.unset).toArray = ls at hl ⊢
  have hl : lv_has ls 2 [(0, .ref a0), (1, .int k1)] := hl
  refine lv_aload_n hx hb dX12_good_0 rfl (lv_at hl 0 rfl) ?_
  refine lv_iconst (v := 0) hx hb dX12_good_1 (by decide) ?_
  refine va_put (D := (dC, dI)) (ci := 9) (v := .int 0) (ty := .int) (C := RX12) (T := TX12) (N := 30) hx hb hts iX12_good_X12 tyX12 tyX12_ok nmX12 hown hK hP hD hS 0 rfl rfl 1 (by decide) (hts (.fieldLink RX12 39 "HookPierModel" "trouble" "I") (List.mem_of_getElem? (i := 1) rfl)) (fun _ h9 => h9) rfl (by decide +kernel) rfl rfl (Nat.le_of_ble_eq_true rfl) dX12_good_2 (fun H locs hP hD hS => ?_)
  have hP : va_P (dC, dI) vwCl [(a0, .inr (9, [g2, .int 0, .int k4, g5, g6, g7, g8, g9, g10, g11, g12, g13, g14, g15, g16, g17, g18, g19, g20, g21, g22, g23, g24, g25, g26, g27, g28, g29, g30, g31]))] H := hP
  have hD : va_D A [(a0, .inr (9, [g2, .int 0, .int k4, g5, g6, g7, g8, g9, g10, g11, g12, g13, g14, g15, g16, g17, g18, g19, g20, g21, g22, g23, g24, g25, g26, g27, g28, g29, g30, g31]))] := hD
  refine lv_aload_n hx hb dX12_good_5 rfl (lv_at hl 0 rfl) ?_
  refine lv_iconst (v := (-1)) hx hb dX12_good_6 (by decide) ?_
  refine va_put (D := (dC, dI)) (ci := 9) (v := .int (-1)) (ty := .int) (C := RX12) (T := TX12) (N := 30) hx hb hts iX12_good_X12 tyX12 tyX12_ok nmX12 hown hK hP hD hS 0 rfl rfl 2 (by decide) (hts (.fieldLink RX12 9 "HookPierModel" "where" "I") (List.mem_of_getElem? (i := 2) rfl)) (fun _ h9 => h9) rfl (by decide +kernel) rfl rfl (Nat.le_of_ble_eq_true rfl) dX12_good_7 (fun H locs hP hD hS => ?_)
  have hP : va_P (dC, dI) vwCl [(a0, .inr (9, [g2, .int 0, .int (-1), g5, g6, g7, g8, g9, g10, g11, g12, g13, g14, g15, g16, g17, g18, g19, g20, g21, g22, g23, g24, g25, g26, g27, g28, g29, g30, g31]))] H := hP
  have hD : va_D A [(a0, .inr (9, [g2, .int 0, .int (-1), g5, g6, g7, g8, g9, g10, g11, g12, g13, g14, g15, g16, g17, g18, g19, g20, g21, g22, g23, g24, g25, g26, g27, g28, g29, g30, g31]))] := hD
  refine lv_iload_n hx hb dX12_good_10 rfl (lv_at hl 1 rfl) ?_
  have hP9 := hP.sub (ws' := [(a0, .inr (9, [g2, .int 0, .int (-1), g5, g6, g7, g8, g9, g10, g11, g12, g13, g14, g15, g16, g17, g18, g19, g20, g21, g22, g23, g24, g25, g26, g27, g28, g29, g30, g31]))]) [0] rfl
  have hD9 := hD.sub (ws' := [(a0, .inr (9, [g2, .int 0, .int (-1), g5, g6, g7, g8, g9, g10, g11, g12, g13, g14, g15, g16, g17, g18, g19, g20, g21, g22, g23, g24, g25, g26, g27, g28, g29, g30, g31]))]) [0] (by decide) rfl
  have hK9 := hK.sub (tys' := []) [] rfl
  exact W.iret (v := k1) hx hb hr (fun t ht hW => ⟨⟨k1, (), rfl, trivial, by rw [ht]; exact hP9, va_K.moved hW.alike hK9, hD9⟩, hS.F ht⟩) hS.2.2 dX12_good_11
theorem dX12_granted_0 : decode cX12_granted 0 = .ok (.aload_n 0, 1) := by decide +kernel
theorem dX12_granted_1 : decode cX12_granted 1 = .ok (.iconst 0, 1) := by decide +kernel
theorem dX12_granted_2 : decode cX12_granted 2 = .ok (.invokevirtual 46, 3) := by decide +kernel
theorem dX12_granted_5 : decode cX12_granted 5 = .ok (.pop, 1) := by decide +kernel
theorem dX12_granted_6 : decode cX12_granted 6 = .ok (.iconst 1, 1) := by decide +kernel
theorem dX12_granted_7 : decode cX12_granted 7 = .ok (.ireturn, 1) := by decide +kernel
def vX12_granted : List Cond := .code yX12_granted cX12_granted 1 (some .boolean) :: ([.methodLink RX12 46 yX12_good, .instanceMethod yX12_good, .selects RX12 yX12_good yX12_good, .initialized RX12, .code yX12_good cX12_good 2 (some .int), .fieldLink RX12 39 "HookPierModel" "trouble" "I", .fieldLink RX12 9 "HookPierModel" "where" "I"] ++ wsX120)
theorem iX12_granted_X12 : ∀ w ∈ wsX120, w ∈ vX12_granted := fun _ h => List.mem_cons_of_mem _ (List.mem_append_right _ h)
set_option maxRecDepth 20000 in
theorem gX12_granted_0 : GoodIn vX12_granted (wsV RX12 46 RX12 yX12_good vX12_good) := goodIn_app (goodIn_r [.methodLink RX12 46 yX12_good, .instanceMethod yX12_good, .selects RX12 yX12_good yX12_good, .initialized RX12] [1, 2, 3, 4] (by decide +kernel) (by decide +kernel)) (goodIn_ca (goodIn_r (.code yX12_good cX12_good 2 (some .int) :: [.fieldLink RX12 39 "HookPierModel" "trouble" "I", .fieldLink RX12 9 "HookPierModel" "where" "I"]) [5, 6, 7] (by decide +kernel) (by decide +kernel) : GoodIn vX12_granted (.code yX12_good cX12_good 2 (some .int) :: [.fieldLink RX12 39 "HookPierModel" "trouble" "I", .fieldLink RX12 9 "HookPierModel" "where" "I"])) (goodIn_sub iX12_granted_X12 (by decide +kernel)))
set_option maxHeartbeats 2000000 in
set_option maxRecDepth 100000 in
theorem kX12_granted (l : Launch) (dC : Nat → ClassId) (dI : Nat → Nat → Nat) (a0 : Nat) (g1 : Value) (k2 : Int32) (k3 : Int32) (g4 : Value) (g5 : Value) (g6 : Value) (g7 : Value) (g8 : Value) (g9 : Value) (g10 : Value) (g11 : Value) (g12 : Value) (g13 : Value) (g14 : Value) (g15 : Value) (g16 : Value) (g17 : Value) (g18 : Value) (g19 : Value) (g20 : Value) (g21 : Value) (g22 : Value) (g23 : Value) (g24 : Value) (g25 : Value) (g26 : Value) (g27 : Value) (g28 : Value) (g29 : Value) (g30 : Value) (sz : Nat) : Met l yX12_granted vX12_granted ({ frames := 1, cells := 0, slots := 0, locals := 21 }) (PC (dC, dI) [.ref a0] sz [(a0, .inr (9, [g1, .int k2, .int k3, g4, g5, g6, g7, g8, g9, g10, g11, g12, g13, g14, g15, g16, g17, g18, g19, g20, g21, g22, g23, g24, g25, g26, g27, g28, g29, g30]))] []) (va_Qi (S := Unit) (fun (r : Int32) _ => r = 1) (fun _ t => BC (dC, dI) (va_A [(a0, .inr (9, [g1, .int k2, .int k3, g4, g5, g6, g7, g8, g9, g10, g11, g12, g13, g14, g15, g16, g17, g18, g19, g20, g21, g22, g23, g24, g25, g26, g27, g28, g29, g30]))] sz) [(a0, .inr (9, [g1, .int 0, .int (-1), g4, g5, g6, g7, g8, g9, g10, g11, g12, g13, g14, g15, g16, g17, g18, g19, g20, g21, g22, g23, g24, g25, g26, g27, g28, g29, g30]))] [] t) (va_A [(a0, .inr (9, [g1, .int k2, .int k3, g4, g5, g6, g7, g8, g9, g10, g11, g12, g13, g14, g15, g16, g17, g18, g19, g20, g21, g22, g23, g24, g25, g26, g27, g28, g29, g30]))] sz)) 0 0 (va_A [(a0, .inr (9, [g1, .int k2, .int k3, g4, g5, g6, g7, g8, g9, g10, g11, g12, g13, g14, g15, g16, g17, g18, g19, g20, g21, g22, g23, g24, g25, g26, g27, g28, g29, g30]))] sz) := by
  refine Met.ofW (cc := cX12_granted) (maxL := 1) (ret := (some .boolean)) (by decide) rfl ?_
  intro p e s m args below meth c s₁ B hml hv
  obtain ⟨rfl, hsz, hP, hK, hD0, hN⟩ := hv
  have hx := B.exec
  have hb := B.bytes
  have hr := B.returns
  have hts := atoms_spec (ws := vX12_granted) B.pre
  have hown : s.vm.findClass RX12 = some m.cls := findClass_of_methodNamed B.named
  have hlocks := B.notSynchronized
  subst hsz
  have hD := hD0.self (sz := s.heap.size)
  generalize hAe : va_A [(a0, .inr (9, [g1, .int k2, .int k3, g4, g5, g6, g7, g8, g9, g10, g11, g12, g13, g14, g15, g16, g17, g18, g19, g20, g21, g22, g23, g24, g25, g26, g27, g28, g29, g30]))] s.heap.size = A at hD ⊢
  have hA : ∀ q : Nat, s.heap.size ≤ q → A q := fun q h => by rw [← hAe]; exact Or.inr h
  have hS : va_S A s.heap s.heap [] := va_S.rf
  have hP : va_P (dC, dI) vwCl [(a0, .inr (9, [g1, .int k2, .int k3, g4, g5, g6, g7, g8, g9, g10, g11, g12, g13, g14, g15, g16, g17, g18, g19, g20, g21, g22, g23, g24, g25, g26, g27, g28, g29, g30]))] s.heap := hP
  have hl := lv_entry ([.ref a0]) (n := 1) (Nat.le_of_ble_eq_true rfl)
  rw [lg_entry_eq]
  generalize (lg_sl ([.ref a0]) ++ List.replicate (1 - (lg_sl ([.ref a0])).length) Slot.unset).toArray = ls at hl ⊢
  have hl : lv_has ls 1 [(0, .ref a0)] := hl
  refine lv_aload_n hx hb dX12_granted_0 rfl (lv_at hl 0 rfl) ?_
  refine lv_iconst (v := 0) hx hb dX12_granted_1 (by decide) ?_
  refine cl_i (wc := [(a0, .inr (9, [g1, .int k2, .int k3, g4, g5, g6, g7, g8, g9, g10, g11, g12, g13, g14, g15, g16, g17, g18, g19, g20, g21, g22, g23, g24, g25, g26, g27, g28, g29, g30]))]) (wr := []) (va_runV (As := [.int 0]) (rest := []) ⟨hx, hb, hml, hown, hts⟩ (kX12_good l dC dI a0 0 (g1) k2 k3 (g4) (g5) (g6) (g7) (g8) (g9) (g10) (g11) (g12) (g13) (g14) (g15) (g16) (g17) (g18) (g19) (g20) (g21) (g22) (g23) (g24) (g25) (g26) (g27) (g28) (g29) (g30)  s.heap.size) (cwV 1 hts gX12_granted_0 rfl rfl rfl (by decide +kernel) ⟨Nat.le_of_ble_eq_true rfl, Nat.le_of_ble_eq_true rfl⟩) (PV (hP.sub (ws' := [(a0, .inr (9, [g1, .int k2, .int k3, g4, g5, g6, g7, g8, g9, g10, g11, g12, g13, g14, g15, g16, g17, g18, g19, g20, g21, g22, g23, g24, g25, g26, g27, g28, g29, g30]))]) [0] rfl) (hK.sub (tys' := []) [] rfl) (hD.sub (ws' := [(a0, .inr (9, [g1, .int k2, .int k3, g4, g5, g6, g7, g8, g9, g10, g11, g12, g13, g14, g15, g16, g17, g18, g19, g20, g21, g22, g23, g24, g25, g26, g27, g28, g29, g30]))]) [0] (by decide) rfl) hN 0 rfl rfl) rfl rfl hl.1 rfl (lv_room (Nat.le_of_ble_eq_true rfl)) dX12_granted_2 ⟨Nat.le_of_ble_eq_true rfl, Nat.le_of_ble_eq_true rfl⟩) hP hD hK hS hA [0] [] rfl rfl (by decide) (by decide) (fun z1 _u H locs hw hP hD hK hS => ?_)
  have b2 := hw
  have hP : va_P (dC, dI) vwCl [(a0, .inr (9, [g1, .int 0, .int (-1), g4, g5, g6, g7, g8, g9, g10, g11, g12, g13, g14, g15, g16, g17, g18, g19, g20, g21, g22, g23, g24, g25, g26, g27, g28, g29, g30]))] H := hP
  have hD : va_D A [(a0, .inr (9, [g1, .int 0, .int (-1), g4, g5, g6, g7, g8, g9, g10, g11, g12, g13, g14, g15, g16, g17, g18, g19, g20, g21, g22, g23, g24, g25, g26, g27, g28, g29, g30]))] := hD
  have hK : va_K (dC, dI) vwCl [] s := hK
  refine lv_pop hx hb dX12_granted_5 rfl ?_
  refine lv_iconst (v := 1) hx hb dX12_granted_6 (by decide) ?_
  have hP9 := hP.sub (ws' := [(a0, .inr (9, [g1, .int 0, .int (-1), g4, g5, g6, g7, g8, g9, g10, g11, g12, g13, g14, g15, g16, g17, g18, g19, g20, g21, g22, g23, g24, g25, g26, g27, g28, g29, g30]))]) [0] rfl
  have hD9 := hD.sub (ws' := [(a0, .inr (9, [g1, .int 0, .int (-1), g4, g5, g6, g7, g8, g9, g10, g11, g12, g13, g14, g15, g16, g17, g18, g19, g20, g21, g22, g23, g24, g25, g26, g27, g28, g29, g30]))]) [0] (by decide) rfl
  have hK9 := hK.sub (tys' := []) [] rfl
  exact W.zret (v := 1) hx hb hr rfl (fun t ht hW => ⟨⟨1, (), rfl, rfl, by rw [ht]; exact hP9, va_K.moved hW.alike hK9, hD9⟩, hS.F ht⟩) hS.2.2 dX12_granted_7
theorem dX12_spotOf_0 : decode cX12_spotOf 0 = .ok (.iload_n 1, 1) := by decide +kernel
theorem dX12_spotOf_1 : decode cX12_spotOf 1 = .ok (.aload_n 0, 1) := by decide +kernel
theorem dX12_spotOf_10 : decode cX12_spotOf 10 = .ok (.getfield 299, 3) := by decide +kernel
theorem dX12_spotOf_13 : decode cX12_spotOf 13 = .ok (.getfield 207, 3) := by decide +kernel
theorem dX12_spotOf_16 : decode cX12_spotOf 16 = .ok (.idiv, 1) := by decide +kernel
theorem dX12_spotOf_17 : decode cX12_spotOf 17 = .ok (.ireturn, 1) := by decide +kernel
theorem dX12_spotOf_2 : decode cX12_spotOf 2 = .ok (.getfield 299, 3) := by decide +kernel
theorem dX12_spotOf_5 : decode cX12_spotOf 5 = .ok (.getfield 175, 3) := by decide +kernel
theorem dX12_spotOf_8 : decode cX12_spotOf 8 = .ok (.idiv, 1) := by decide +kernel
theorem dX12_spotOf_9 : decode cX12_spotOf 9 = .ok (.aload_n 0, 1) := by decide +kernel
def vX12_spotOf : List Cond := .code yX12_spotOf cX12_spotOf 2 (some .int) :: ([.fieldLink RX12 299 "HookPierModel" "pier" "LHookPierModel$Pier;"] ++ wsX120 ++ wsX110)
theorem iX12_spotOf_X12 : ∀ w ∈ wsX120, w ∈ vX12_spotOf := fun _ h => List.mem_cons_of_mem _ (List.mem_append_left _ (List.mem_append_right _ h))
theorem iX12_spotOf_X11 : ∀ w ∈ wsX110, w ∈ vX12_spotOf := fun _ h => List.mem_cons_of_mem _ (List.mem_append_right _ h)
set_option maxHeartbeats 2000000 in
set_option maxRecDepth 100000 in
theorem kX12_spotOf (l : Launch) (dC : Nat → ClassId) (dI : Nat → Nat → Nat) (a0 : Nat) (k1 : Int32) (a2 : Nat) (g3 : Value) (g4 : Value) (g5 : Value) (g6 : Value) (g7 : Value) (g8 : Value) (g9 : Value) (g10 : Value) (g11 : Value) (g12 : Value) (g13 : Value) (g14 : Value) (g15 : Value) (g16 : Value) (g17 : Value) (g18 : Value) (g19 : Value) (g20 : Value) (g21 : Value) (g22 : Value) (g23 : Value) (g24 : Value) (g25 : Value) (g26 : Value) (g27 : Value) (g28 : Value) (g29 : Value) (g30 : Value) (g31 : Value) (g32 : Value) (k33 : Int32) (g34 : Value) (g35 : Value) (k36 : Int32) (g37 : Value) (g38 : Value) (g39 : Value) (g40 : Value) (g41 : Value) (g42 : Value) (g43 : Value) (g44 : Value) (g45 : Value) (g46 : Value) (g47 : Value) (g48 : Value) (g49 : Value) (g50 : Value) (g51 : Value) (g52 : Value) (g53 : Value) (g54 : Value) (g55 : Value) (hk33 : (1 ≤ k33.toInt ∧ k33.toInt ≤ 9)) (hk36 : (1 ≤ k36.toInt ∧ k36.toInt ≤ 4)) (sz : Nat) : Met l yX12_spotOf vX12_spotOf ({ frames := 0, cells := 0, slots := 0, locals := 0 }) (PC (dC, dI) [.ref a0, .int k1] sz [(a0, .inr (9, [g3, g4, g5, .ref a2, g6, g7, g8, g9, g10, g11, g12, g13, g14, g15, g16, g17, g18, g19, g20, g21, g22, g23, g24, g25, g26, g27, g28, g29, g30, g31])), (a2, .inr (8, [g32, .int k33, g34, g35, .int k36, g37, g38, g39, g40, g41, g42, g43, g44, g45, g46, g47, g48, g49, g50, g51, g52, g53, g54, g55]))] []) (va_Qi (S := Unit) (fun (r : Int32) _ => True) (fun _ t => BC (dC, dI) (va_A [(a0, .inr (9, [g3, g4, g5, .ref a2, g6, g7, g8, g9, g10, g11, g12, g13, g14, g15, g16, g17, g18, g19, g20, g21, g22, g23, g24, g25, g26, g27, g28, g29, g30, g31])), (a2, .inr (8, [g32, .int k33, g34, g35, .int k36, g37, g38, g39, g40, g41, g42, g43, g44, g45, g46, g47, g48, g49, g50, g51, g52, g53, g54, g55]))] sz) [(a0, .inr (9, [g3, g4, g5, .ref a2, g6, g7, g8, g9, g10, g11, g12, g13, g14, g15, g16, g17, g18, g19, g20, g21, g22, g23, g24, g25, g26, g27, g28, g29, g30, g31])), (a2, .inr (8, [g32, .int k33, g34, g35, .int k36, g37, g38, g39, g40, g41, g42, g43, g44, g45, g46, g47, g48, g49, g50, g51, g52, g53, g54, g55]))] [] t) (va_A [(a0, .inr (9, [g3, g4, g5, .ref a2, g6, g7, g8, g9, g10, g11, g12, g13, g14, g15, g16, g17, g18, g19, g20, g21, g22, g23, g24, g25, g26, g27, g28, g29, g30, g31])), (a2, .inr (8, [g32, .int k33, g34, g35, .int k36, g37, g38, g39, g40, g41, g42, g43, g44, g45, g46, g47, g48, g49, g50, g51, g52, g53, g54, g55]))] sz)) 0 0 (va_A [(a0, .inr (9, [g3, g4, g5, .ref a2, g6, g7, g8, g9, g10, g11, g12, g13, g14, g15, g16, g17, g18, g19, g20, g21, g22, g23, g24, g25, g26, g27, g28, g29, g30, g31])), (a2, .inr (8, [g32, .int k33, g34, g35, .int k36, g37, g38, g39, g40, g41, g42, g43, g44, g45, g46, g47, g48, g49, g50, g51, g52, g53, g54, g55]))] sz) := by
  refine Met.ofW (cc := cX12_spotOf) (maxL := 2) (ret := (some .int)) (by decide) rfl ?_
  intro p e s m args below meth c s₁ B hml hv
  obtain ⟨rfl, hsz, hP, hK, hD0, hN⟩ := hv
  have hx := B.exec
  have hb := B.bytes
  have hr := B.returns
  have hts := atoms_spec (ws := vX12_spotOf) B.pre
  have hown : s.vm.findClass RX12 = some m.cls := findClass_of_methodNamed B.named
  have hlocks := B.notSynchronized
  subst hsz
  have hD := hD0.self (sz := s.heap.size)
  generalize hAe : va_A [(a0, .inr (9, [g3, g4, g5, .ref a2, g6, g7, g8, g9, g10, g11, g12, g13, g14, g15, g16, g17, g18, g19, g20, g21, g22, g23, g24, g25, g26, g27, g28, g29, g30, g31])), (a2, .inr (8, [g32, .int k33, g34, g35, .int k36, g37, g38, g39, g40, g41, g42, g43, g44, g45, g46, g47, g48, g49, g50, g51, g52, g53, g54, g55]))] s.heap.size = A at hD ⊢
  have hA : ∀ q : Nat, s.heap.size ≤ q → A q := fun q h => by rw [← hAe]; exact Or.inr h
  have hS : va_S A s.heap s.heap [] := va_S.rf
  have hP : va_P (dC, dI) vwCl [(a0, .inr (9, [g3, g4, g5, .ref a2, g6, g7, g8, g9, g10, g11, g12, g13, g14, g15, g16, g17, g18, g19, g20, g21, g22, g23, g24, g25, g26, g27, g28, g29, g30, g31])), (a2, .inr (8, [g32, .int k33, g34, g35, .int k36, g37, g38, g39, g40, g41, g42, g43, g44, g45, g46, g47, g48, g49, g50, g51, g52, g53, g54, g55]))] s.heap := hP
  have hl := lv_entry ([.ref a0, .int k1]) (n := 2) (Nat.le_of_ble_eq_true rfl)
  rw [lg_entry_eq]
  generalize (lg_sl ([.ref a0, .int k1]) ++ List.replicate (2 - (lg_sl ([.ref a0, .int k1])).length) Slot.unset).toArray = ls at hl ⊢
  have hl : lv_has ls 2 [(0, .ref a0), (1, .int k1)] := hl
  refine lv_iload_n hx hb dX12_spotOf_0 rfl (lv_at hl 1 rfl) ?_
  refine lv_aload_n hx hb dX12_spotOf_1 rfl (lv_at hl 0 rfl) ?_
  refine va_get (D := (dC, dI)) (ci := 9) (v := .ref a2) (C := RX12) (T := TX12) (N := 30) hx hb hts iX12_spotOf_X12 hown hK hP 0 rfl rfl 3 (by decide) (hts (.fieldLink RX12 299 "HookPierModel" "pier" "LHookPierModel$Pier;") (List.mem_of_getElem? (i := 1) rfl)) (fun _ h9 => h9) rfl dX12_spotOf_2 ?_
  refine va_getN (D := (dC, dI)) (ci := 8) (v := .int k36) (C := RX11) (T := TX11) (N := 24) hx hb hts iX12_spotOf_X11 hown hK hP 1 rfl rfl 4 (by decide) (va_Nw.use rfl (hN.1 (.fieldLinkNest RX12 175 "HookPierModel$Pier" "baits" "I" "HookPierModel") (List.mem_of_getElem? (i := 26) rfl))) (fun _ h9 => h9) rfl dX12_spotOf_5 ?_
  refine lv_idiv hx hb dX12_spotOf_8 (by rw [fa_eq, ltv_0]; omega) ?_
  refine lv_topi (fun z1 ez1 => ?_)
  clear ez1
  refine lv_aload_n hx hb dX12_spotOf_9 rfl (lv_at hl 0 rfl) ?_
  refine va_get (D := (dC, dI)) (ci := 9) (v := .ref a2) (C := RX12) (T := TX12) (N := 30) hx hb hts iX12_spotOf_X12 hown hK hP 0 rfl rfl 3 (by decide) (hts (.fieldLink RX12 299 "HookPierModel" "pier" "LHookPierModel$Pier;") (List.mem_of_getElem? (i := 1) rfl)) (fun _ h9 => h9) rfl dX12_spotOf_10 ?_
  refine va_getN (D := (dC, dI)) (ci := 8) (v := .int k33) (C := RX11) (T := TX11) (N := 24) hx hb hts iX12_spotOf_X11 hown hK hP 1 rfl rfl 1 (by decide) (va_Nw.use rfl (hN.1 (.fieldLinkNest RX12 207 "HookPierModel$Pier" "deep" "I" "HookPierModel") (List.mem_of_getElem? (i := 23) rfl))) (fun _ h9 => h9) rfl dX12_spotOf_13 ?_
  refine lv_idiv hx hb dX12_spotOf_16 (by rw [fa_eq, ltv_0]; omega) ?_
  refine lv_topi (fun z2 ez2 => ?_)
  clear ez2
  have hP9 := hP.sub (ws' := [(a0, .inr (9, [g3, g4, g5, .ref a2, g6, g7, g8, g9, g10, g11, g12, g13, g14, g15, g16, g17, g18, g19, g20, g21, g22, g23, g24, g25, g26, g27, g28, g29, g30, g31])), (a2, .inr (8, [g32, .int k33, g34, g35, .int k36, g37, g38, g39, g40, g41, g42, g43, g44, g45, g46, g47, g48, g49, g50, g51, g52, g53, g54, g55]))]) [0, 1] rfl
  have hD9 := hD.sub (ws' := [(a0, .inr (9, [g3, g4, g5, .ref a2, g6, g7, g8, g9, g10, g11, g12, g13, g14, g15, g16, g17, g18, g19, g20, g21, g22, g23, g24, g25, g26, g27, g28, g29, g30, g31])), (a2, .inr (8, [g32, .int k33, g34, g35, .int k36, g37, g38, g39, g40, g41, g42, g43, g44, g45, g46, g47, g48, g49, g50, g51, g52, g53, g54, g55]))]) [0, 1] (by decide) rfl
  have hK9 := hK.sub (tys' := []) [] rfl
  exact W.iret (v := z2) hx hb hr (fun t ht hW => ⟨⟨z2, (), rfl, trivial, by rw [ht]; exact hP9, va_K.moved hW.alike hK9, hD9⟩, hS.F ht⟩) hS.2.2 dX12_spotOf_17
theorem dX12_fathomsOf_0 : decode cX12_fathomsOf 0 = .ok (.iload_n 1, 1) := by decide +kernel
theorem dX12_fathomsOf_1 : decode cX12_fathomsOf 1 = .ok (.aload_n 0, 1) := by decide +kernel
theorem dX12_fathomsOf_10 : decode cX12_fathomsOf 10 = .ok (.getfield 299, 3) := by decide +kernel
theorem dX12_fathomsOf_13 : decode cX12_fathomsOf 13 = .ok (.getfield 207, 3) := by decide +kernel
theorem dX12_fathomsOf_16 : decode cX12_fathomsOf 16 = .ok (.irem, 1) := by decide +kernel
theorem dX12_fathomsOf_17 : decode cX12_fathomsOf 17 = .ok (.iconst 1, 1) := by decide +kernel
theorem dX12_fathomsOf_18 : decode cX12_fathomsOf 18 = .ok (.iadd, 1) := by decide +kernel
theorem dX12_fathomsOf_19 : decode cX12_fathomsOf 19 = .ok (.ireturn, 1) := by decide +kernel
theorem dX12_fathomsOf_2 : decode cX12_fathomsOf 2 = .ok (.getfield 299, 3) := by decide +kernel
theorem dX12_fathomsOf_5 : decode cX12_fathomsOf 5 = .ok (.getfield 175, 3) := by decide +kernel
theorem dX12_fathomsOf_8 : decode cX12_fathomsOf 8 = .ok (.idiv, 1) := by decide +kernel
theorem dX12_fathomsOf_9 : decode cX12_fathomsOf 9 = .ok (.aload_n 0, 1) := by decide +kernel
def vX12_fathomsOf : List Cond := .code yX12_fathomsOf cX12_fathomsOf 2 (some .int) :: ([.fieldLink RX12 299 "HookPierModel" "pier" "LHookPierModel$Pier;"] ++ wsX120 ++ wsX110)
theorem iX12_fathomsOf_X12 : ∀ w ∈ wsX120, w ∈ vX12_fathomsOf := fun _ h => List.mem_cons_of_mem _ (List.mem_append_left _ (List.mem_append_right _ h))
theorem iX12_fathomsOf_X11 : ∀ w ∈ wsX110, w ∈ vX12_fathomsOf := fun _ h => List.mem_cons_of_mem _ (List.mem_append_right _ h)
set_option maxHeartbeats 2000000 in
set_option maxRecDepth 100000 in
theorem kX12_fathomsOf (l : Launch) (dC : Nat → ClassId) (dI : Nat → Nat → Nat) (a0 : Nat) (k1 : Int32) (a2 : Nat) (g3 : Value) (g4 : Value) (g5 : Value) (g6 : Value) (g7 : Value) (g8 : Value) (g9 : Value) (g10 : Value) (g11 : Value) (g12 : Value) (g13 : Value) (g14 : Value) (g15 : Value) (g16 : Value) (g17 : Value) (g18 : Value) (g19 : Value) (g20 : Value) (g21 : Value) (g22 : Value) (g23 : Value) (g24 : Value) (g25 : Value) (g26 : Value) (g27 : Value) (g28 : Value) (g29 : Value) (g30 : Value) (g31 : Value) (g32 : Value) (k33 : Int32) (g34 : Value) (g35 : Value) (k36 : Int32) (g37 : Value) (g38 : Value) (g39 : Value) (g40 : Value) (g41 : Value) (g42 : Value) (g43 : Value) (g44 : Value) (g45 : Value) (g46 : Value) (g47 : Value) (g48 : Value) (g49 : Value) (g50 : Value) (g51 : Value) (g52 : Value) (g53 : Value) (g54 : Value) (g55 : Value) (hk33 : (1 ≤ k33.toInt ∧ k33.toInt ≤ 9)) (hk36 : (1 ≤ k36.toInt ∧ k36.toInt ≤ 4)) (sz : Nat) : Met l yX12_fathomsOf vX12_fathomsOf ({ frames := 0, cells := 0, slots := 0, locals := 0 }) (PC (dC, dI) [.ref a0, .int k1] sz [(a0, .inr (9, [g3, g4, g5, .ref a2, g6, g7, g8, g9, g10, g11, g12, g13, g14, g15, g16, g17, g18, g19, g20, g21, g22, g23, g24, g25, g26, g27, g28, g29, g30, g31])), (a2, .inr (8, [g32, .int k33, g34, g35, .int k36, g37, g38, g39, g40, g41, g42, g43, g44, g45, g46, g47, g48, g49, g50, g51, g52, g53, g54, g55]))] []) (va_Qi (S := Unit) (fun (r : Int32) _ => True) (fun _ t => BC (dC, dI) (va_A [(a0, .inr (9, [g3, g4, g5, .ref a2, g6, g7, g8, g9, g10, g11, g12, g13, g14, g15, g16, g17, g18, g19, g20, g21, g22, g23, g24, g25, g26, g27, g28, g29, g30, g31])), (a2, .inr (8, [g32, .int k33, g34, g35, .int k36, g37, g38, g39, g40, g41, g42, g43, g44, g45, g46, g47, g48, g49, g50, g51, g52, g53, g54, g55]))] sz) [(a0, .inr (9, [g3, g4, g5, .ref a2, g6, g7, g8, g9, g10, g11, g12, g13, g14, g15, g16, g17, g18, g19, g20, g21, g22, g23, g24, g25, g26, g27, g28, g29, g30, g31])), (a2, .inr (8, [g32, .int k33, g34, g35, .int k36, g37, g38, g39, g40, g41, g42, g43, g44, g45, g46, g47, g48, g49, g50, g51, g52, g53, g54, g55]))] [] t) (va_A [(a0, .inr (9, [g3, g4, g5, .ref a2, g6, g7, g8, g9, g10, g11, g12, g13, g14, g15, g16, g17, g18, g19, g20, g21, g22, g23, g24, g25, g26, g27, g28, g29, g30, g31])), (a2, .inr (8, [g32, .int k33, g34, g35, .int k36, g37, g38, g39, g40, g41, g42, g43, g44, g45, g46, g47, g48, g49, g50, g51, g52, g53, g54, g55]))] sz)) 0 0 (va_A [(a0, .inr (9, [g3, g4, g5, .ref a2, g6, g7, g8, g9, g10, g11, g12, g13, g14, g15, g16, g17, g18, g19, g20, g21, g22, g23, g24, g25, g26, g27, g28, g29, g30, g31])), (a2, .inr (8, [g32, .int k33, g34, g35, .int k36, g37, g38, g39, g40, g41, g42, g43, g44, g45, g46, g47, g48, g49, g50, g51, g52, g53, g54, g55]))] sz) := by
  refine Met.ofW (cc := cX12_fathomsOf) (maxL := 2) (ret := (some .int)) (by decide) rfl ?_
  intro p e s m args below meth c s₁ B hml hv
  obtain ⟨rfl, hsz, hP, hK, hD0, hN⟩ := hv
  have hx := B.exec
  have hb := B.bytes
  have hr := B.returns
  have hts := atoms_spec (ws := vX12_fathomsOf) B.pre
  have hown : s.vm.findClass RX12 = some m.cls := findClass_of_methodNamed B.named
  have hlocks := B.notSynchronized
  subst hsz
  have hD := hD0.self (sz := s.heap.size)
  generalize hAe : va_A [(a0, .inr (9, [g3, g4, g5, .ref a2, g6, g7, g8, g9, g10, g11, g12, g13, g14, g15, g16, g17, g18, g19, g20, g21, g22, g23, g24, g25, g26, g27, g28, g29, g30, g31])), (a2, .inr (8, [g32, .int k33, g34, g35, .int k36, g37, g38, g39, g40, g41, g42, g43, g44, g45, g46, g47, g48, g49, g50, g51, g52, g53, g54, g55]))] s.heap.size = A at hD ⊢
  have hA : ∀ q : Nat, s.heap.size ≤ q → A q := fun q h => by rw [← hAe]; exact Or.inr h
  have hS : va_S A s.heap s.heap [] := va_S.rf
  have hP : va_P (dC, dI) vwCl [(a0, .inr (9, [g3, g4, g5, .ref a2, g6, g7, g8, g9, g10, g11, g12, g13, g14, g15, g16, g17, g18, g19, g20, g21, g22, g23, g24, g25, g26, g27, g28, g29, g30, g31])), (a2, .inr (8, [g32, .int k33, g34, g35, .int k36, g37, g38, g39, g40, g41, g42, g43, g44, g45, g46, g47, g48, g49, g50, g51, g52, g53, g54, g55]))] s.heap := hP
  have hl := lv_entry ([.ref a0, .int k1]) (n := 2) (Nat.le_of_ble_eq_true rfl)
  rw [lg_entry_eq]
  generalize (lg_sl ([.ref a0, .int k1]) ++ List.replicate (2 - (lg_sl ([.ref a0, .int k1])).length) Slot.unset).toArray = ls at hl ⊢
  have hl : lv_has ls 2 [(0, .ref a0), (1, .int k1)] := hl
  refine lv_iload_n hx hb dX12_fathomsOf_0 rfl (lv_at hl 1 rfl) ?_
  refine lv_aload_n hx hb dX12_fathomsOf_1 rfl (lv_at hl 0 rfl) ?_
  refine va_get (D := (dC, dI)) (ci := 9) (v := .ref a2) (C := RX12) (T := TX12) (N := 30) hx hb hts iX12_fathomsOf_X12 hown hK hP 0 rfl rfl 3 (by decide) (hts (.fieldLink RX12 299 "HookPierModel" "pier" "LHookPierModel$Pier;") (List.mem_of_getElem? (i := 1) rfl)) (fun _ h9 => h9) rfl dX12_fathomsOf_2 ?_
  refine va_getN (D := (dC, dI)) (ci := 8) (v := .int k36) (C := RX11) (T := TX11) (N := 24) hx hb hts iX12_fathomsOf_X11 hown hK hP 1 rfl rfl 4 (by decide) (va_Nw.use rfl (hN.1 (.fieldLinkNest RX12 175 "HookPierModel$Pier" "baits" "I" "HookPierModel") (List.mem_of_getElem? (i := 26) rfl))) (fun _ h9 => h9) rfl dX12_fathomsOf_5 ?_
  refine lv_idiv hx hb dX12_fathomsOf_8 (by rw [fa_eq, ltv_0]; omega) ?_
  refine lv_topi (fun z1 ez1 => ?_)
  clear ez1
  refine lv_aload_n hx hb dX12_fathomsOf_9 rfl (lv_at hl 0 rfl) ?_
  refine va_get (D := (dC, dI)) (ci := 9) (v := .ref a2) (C := RX12) (T := TX12) (N := 30) hx hb hts iX12_fathomsOf_X12 hown hK hP 0 rfl rfl 3 (by decide) (hts (.fieldLink RX12 299 "HookPierModel" "pier" "LHookPierModel$Pier;") (List.mem_of_getElem? (i := 1) rfl)) (fun _ h9 => h9) rfl dX12_fathomsOf_10 ?_
  refine va_getN (D := (dC, dI)) (ci := 8) (v := .int k33) (C := RX11) (T := TX11) (N := 24) hx hb hts iX12_fathomsOf_X11 hown hK hP 1 rfl rfl 1 (by decide) (va_Nw.use rfl (hN.1 (.fieldLinkNest RX12 207 "HookPierModel$Pier" "deep" "I" "HookPierModel") (List.mem_of_getElem? (i := 23) rfl))) (fun _ h9 => h9) rfl dX12_fathomsOf_13 ?_
  refine lv_irem hx hb dX12_fathomsOf_16 (by rw [fa_eq, ltv_0]; omega) ?_
  refine lv_topi (fun z2 ez2 => ?_)
  clear ez2
  refine lv_iconst (v := 1) hx hb dX12_fathomsOf_17 (by decide) ?_
  refine lv_iadd hx hb dX12_fathomsOf_18 ?_
  refine lv_topi (fun z3 ez3 => ?_)
  clear ez3
  have hP9 := hP.sub (ws' := [(a0, .inr (9, [g3, g4, g5, .ref a2, g6, g7, g8, g9, g10, g11, g12, g13, g14, g15, g16, g17, g18, g19, g20, g21, g22, g23, g24, g25, g26, g27, g28, g29, g30, g31])), (a2, .inr (8, [g32, .int k33, g34, g35, .int k36, g37, g38, g39, g40, g41, g42, g43, g44, g45, g46, g47, g48, g49, g50, g51, g52, g53, g54, g55]))]) [0, 1] rfl
  have hD9 := hD.sub (ws' := [(a0, .inr (9, [g3, g4, g5, .ref a2, g6, g7, g8, g9, g10, g11, g12, g13, g14, g15, g16, g17, g18, g19, g20, g21, g22, g23, g24, g25, g26, g27, g28, g29, g30, g31])), (a2, .inr (8, [g32, .int k33, g34, g35, .int k36, g37, g38, g39, g40, g41, g42, g43, g44, g45, g46, g47, g48, g49, g50, g51, g52, g53, g54, g55]))]) [0, 1] (by decide) rfl
  have hK9 := hK.sub (tys' := []) [] rfl
  exact W.iret (v := z3) hx hb hr (fun t ht hW => ⟨⟨z3, (), rfl, trivial, by rw [ht]; exact hP9, va_K.moved hW.alike hK9, hD9⟩, hS.F ht⟩) hS.2.2 dX12_fathomsOf_19
theorem dX12_baitOf_0 : decode cX12_baitOf 0 = .ok (.iload_n 1, 1) := by decide +kernel
theorem dX12_baitOf_1 : decode cX12_baitOf 1 = .ok (.aload_n 0, 1) := by decide +kernel
theorem dX12_baitOf_2 : decode cX12_baitOf 2 = .ok (.getfield 299, 3) := by decide +kernel
theorem dX12_baitOf_5 : decode cX12_baitOf 5 = .ok (.getfield 175, 3) := by decide +kernel
theorem dX12_baitOf_8 : decode cX12_baitOf 8 = .ok (.irem, 1) := by decide +kernel
theorem dX12_baitOf_9 : decode cX12_baitOf 9 = .ok (.ireturn, 1) := by decide +kernel
def vX12_baitOf : List Cond := .code yX12_baitOf cX12_baitOf 2 (some .int) :: ([.fieldLink RX12 299 "HookPierModel" "pier" "LHookPierModel$Pier;"] ++ wsX120 ++ wsX110)
theorem iX12_baitOf_X12 : ∀ w ∈ wsX120, w ∈ vX12_baitOf := fun _ h => List.mem_cons_of_mem _ (List.mem_append_left _ (List.mem_append_right _ h))
theorem iX12_baitOf_X11 : ∀ w ∈ wsX110, w ∈ vX12_baitOf := fun _ h => List.mem_cons_of_mem _ (List.mem_append_right _ h)
set_option maxHeartbeats 2000000 in
set_option maxRecDepth 100000 in
theorem kX12_baitOf (l : Launch) (dC : Nat → ClassId) (dI : Nat → Nat → Nat) (a0 : Nat) (k1 : Int32) (a2 : Nat) (g3 : Value) (g4 : Value) (g5 : Value) (g6 : Value) (g7 : Value) (g8 : Value) (g9 : Value) (g10 : Value) (g11 : Value) (g12 : Value) (g13 : Value) (g14 : Value) (g15 : Value) (g16 : Value) (g17 : Value) (g18 : Value) (g19 : Value) (g20 : Value) (g21 : Value) (g22 : Value) (g23 : Value) (g24 : Value) (g25 : Value) (g26 : Value) (g27 : Value) (g28 : Value) (g29 : Value) (g30 : Value) (g31 : Value) (g32 : Value) (g33 : Value) (g34 : Value) (g35 : Value) (k36 : Int32) (g37 : Value) (g38 : Value) (g39 : Value) (g40 : Value) (g41 : Value) (g42 : Value) (g43 : Value) (g44 : Value) (g45 : Value) (g46 : Value) (g47 : Value) (g48 : Value) (g49 : Value) (g50 : Value) (g51 : Value) (g52 : Value) (g53 : Value) (g54 : Value) (g55 : Value) (hk36 : (1 ≤ k36.toInt ∧ k36.toInt ≤ 4)) (sz : Nat) : Met l yX12_baitOf vX12_baitOf ({ frames := 0, cells := 0, slots := 0, locals := 0 }) (PC (dC, dI) [.ref a0, .int k1] sz [(a0, .inr (9, [g3, g4, g5, .ref a2, g6, g7, g8, g9, g10, g11, g12, g13, g14, g15, g16, g17, g18, g19, g20, g21, g22, g23, g24, g25, g26, g27, g28, g29, g30, g31])), (a2, .inr (8, [g32, g33, g34, g35, .int k36, g37, g38, g39, g40, g41, g42, g43, g44, g45, g46, g47, g48, g49, g50, g51, g52, g53, g54, g55]))] []) (va_Qi (S := Unit) (fun (r : Int32) _ => True) (fun _ t => BC (dC, dI) (va_A [(a0, .inr (9, [g3, g4, g5, .ref a2, g6, g7, g8, g9, g10, g11, g12, g13, g14, g15, g16, g17, g18, g19, g20, g21, g22, g23, g24, g25, g26, g27, g28, g29, g30, g31])), (a2, .inr (8, [g32, g33, g34, g35, .int k36, g37, g38, g39, g40, g41, g42, g43, g44, g45, g46, g47, g48, g49, g50, g51, g52, g53, g54, g55]))] sz) [(a0, .inr (9, [g3, g4, g5, .ref a2, g6, g7, g8, g9, g10, g11, g12, g13, g14, g15, g16, g17, g18, g19, g20, g21, g22, g23, g24, g25, g26, g27, g28, g29, g30, g31])), (a2, .inr (8, [g32, g33, g34, g35, .int k36, g37, g38, g39, g40, g41, g42, g43, g44, g45, g46, g47, g48, g49, g50, g51, g52, g53, g54, g55]))] [] t) (va_A [(a0, .inr (9, [g3, g4, g5, .ref a2, g6, g7, g8, g9, g10, g11, g12, g13, g14, g15, g16, g17, g18, g19, g20, g21, g22, g23, g24, g25, g26, g27, g28, g29, g30, g31])), (a2, .inr (8, [g32, g33, g34, g35, .int k36, g37, g38, g39, g40, g41, g42, g43, g44, g45, g46, g47, g48, g49, g50, g51, g52, g53, g54, g55]))] sz)) 0 0 (va_A [(a0, .inr (9, [g3, g4, g5, .ref a2, g6, g7, g8, g9, g10, g11, g12, g13, g14, g15, g16, g17, g18, g19, g20, g21, g22, g23, g24, g25, g26, g27, g28, g29, g30, g31])), (a2, .inr (8, [g32, g33, g34, g35, .int k36, g37, g38, g39, g40, g41, g42, g43, g44, g45, g46, g47, g48, g49, g50, g51, g52, g53, g54, g55]))] sz) := by
  refine Met.ofW (cc := cX12_baitOf) (maxL := 2) (ret := (some .int)) (by decide) rfl ?_
  intro p e s m args below meth c s₁ B hml hv
  obtain ⟨rfl, hsz, hP, hK, hD0, hN⟩ := hv
  have hx := B.exec
  have hb := B.bytes
  have hr := B.returns
  have hts := atoms_spec (ws := vX12_baitOf) B.pre
  have hown : s.vm.findClass RX12 = some m.cls := findClass_of_methodNamed B.named
  have hlocks := B.notSynchronized
  subst hsz
  have hD := hD0.self (sz := s.heap.size)
  generalize hAe : va_A [(a0, .inr (9, [g3, g4, g5, .ref a2, g6, g7, g8, g9, g10, g11, g12, g13, g14, g15, g16, g17, g18, g19, g20, g21, g22, g23, g24, g25, g26, g27, g28, g29, g30, g31])), (a2, .inr (8, [g32, g33, g34, g35, .int k36, g37, g38, g39, g40, g41, g42, g43, g44, g45, g46, g47, g48, g49, g50, g51, g52, g53, g54, g55]))] s.heap.size = A at hD ⊢
  have hA : ∀ q : Nat, s.heap.size ≤ q → A q := fun q h => by rw [← hAe]; exact Or.inr h
  have hS : va_S A s.heap s.heap [] := va_S.rf
  have hP : va_P (dC, dI) vwCl [(a0, .inr (9, [g3, g4, g5, .ref a2, g6, g7, g8, g9, g10, g11, g12, g13, g14, g15, g16, g17, g18, g19, g20, g21, g22, g23, g24, g25, g26, g27, g28, g29, g30, g31])), (a2, .inr (8, [g32, g33, g34, g35, .int k36, g37, g38, g39, g40, g41, g42, g43, g44, g45, g46, g47, g48, g49, g50, g51, g52, g53, g54, g55]))] s.heap := hP
  have hl := lv_entry ([.ref a0, .int k1]) (n := 2) (Nat.le_of_ble_eq_true rfl)
  rw [lg_entry_eq]
  generalize (lg_sl ([.ref a0, .int k1]) ++ List.replicate (2 - (lg_sl ([.ref a0, .int k1])).length) Slot.unset).toArray = ls at hl ⊢
  have hl : lv_has ls 2 [(0, .ref a0), (1, .int k1)] := hl
  refine lv_iload_n hx hb dX12_baitOf_0 rfl (lv_at hl 1 rfl) ?_
  refine lv_aload_n hx hb dX12_baitOf_1 rfl (lv_at hl 0 rfl) ?_
  refine va_get (D := (dC, dI)) (ci := 9) (v := .ref a2) (C := RX12) (T := TX12) (N := 30) hx hb hts iX12_baitOf_X12 hown hK hP 0 rfl rfl 3 (by decide) (hts (.fieldLink RX12 299 "HookPierModel" "pier" "LHookPierModel$Pier;") (List.mem_of_getElem? (i := 1) rfl)) (fun _ h9 => h9) rfl dX12_baitOf_2 ?_
  refine va_getN (D := (dC, dI)) (ci := 8) (v := .int k36) (C := RX11) (T := TX11) (N := 24) hx hb hts iX12_baitOf_X11 hown hK hP 1 rfl rfl 4 (by decide) (va_Nw.use rfl (hN.1 (.fieldLinkNest RX12 175 "HookPierModel$Pier" "baits" "I" "HookPierModel") (List.mem_of_getElem? (i := 26) rfl))) (fun _ h9 => h9) rfl dX12_baitOf_5 ?_
  refine lv_irem hx hb dX12_baitOf_8 (by rw [fa_eq, ltv_0]; omega) ?_
  refine lv_topi (fun z1 ez1 => ?_)
  clear ez1
  have hP9 := hP.sub (ws' := [(a0, .inr (9, [g3, g4, g5, .ref a2, g6, g7, g8, g9, g10, g11, g12, g13, g14, g15, g16, g17, g18, g19, g20, g21, g22, g23, g24, g25, g26, g27, g28, g29, g30, g31])), (a2, .inr (8, [g32, g33, g34, g35, .int k36, g37, g38, g39, g40, g41, g42, g43, g44, g45, g46, g47, g48, g49, g50, g51, g52, g53, g54, g55]))]) [0, 1] rfl
  have hD9 := hD.sub (ws' := [(a0, .inr (9, [g3, g4, g5, .ref a2, g6, g7, g8, g9, g10, g11, g12, g13, g14, g15, g16, g17, g18, g19, g20, g21, g22, g23, g24, g25, g26, g27, g28, g29, g30, g31])), (a2, .inr (8, [g32, g33, g34, g35, .int k36, g37, g38, g39, g40, g41, g42, g43, g44, g45, g46, g47, g48, g49, g50, g51, g52, g53, g54, g55]))]) [0, 1] (by decide) rfl
  have hK9 := hK.sub (tys' := []) [] rfl
  exact W.iret (v := z1) hx hb hr (fun t ht hW => ⟨⟨z1, (), rfl, trivial, by rw [ht]; exact hP9, va_K.moved hW.alike hK9, hD9⟩, hS.F ht⟩) hS.2.2 dX12_baitOf_9
theorem dX12_codeOf_0 : decode cX12_codeOf 0 = .ok (.bipush 100, 2) := by decide +kernel
theorem dX12_codeOf_10 : decode cX12_codeOf 10 = .ok (.aload_n 0, 1) := by decide +kernel
theorem dX12_codeOf_11 : decode cX12_codeOf 11 = .ok (.iload_n 1, 1) := by decide +kernel
theorem dX12_codeOf_12 : decode cX12_codeOf 12 = .ok (.invokevirtual 310, 3) := by decide +kernel
theorem dX12_codeOf_15 : decode cX12_codeOf 15 = .ok (.imul, 1) := by decide +kernel
theorem dX12_codeOf_16 : decode cX12_codeOf 16 = .ok (.iadd, 1) := by decide +kernel
theorem dX12_codeOf_17 : decode cX12_codeOf 17 = .ok (.aload_n 0, 1) := by decide +kernel
theorem dX12_codeOf_18 : decode cX12_codeOf 18 = .ok (.iload_n 1, 1) := by decide +kernel
theorem dX12_codeOf_19 : decode cX12_codeOf 19 = .ok (.invokevirtual 313, 3) := by decide +kernel
theorem dX12_codeOf_2 : decode cX12_codeOf 2 = .ok (.aload_n 0, 1) := by decide +kernel
theorem dX12_codeOf_22 : decode cX12_codeOf 22 = .ok (.iadd, 1) := by decide +kernel
theorem dX12_codeOf_23 : decode cX12_codeOf 23 = .ok (.ireturn, 1) := by decide +kernel
theorem dX12_codeOf_3 : decode cX12_codeOf 3 = .ok (.iload_n 1, 1) := by decide +kernel
theorem dX12_codeOf_4 : decode cX12_codeOf 4 = .ok (.invokevirtual 307, 3) := by decide +kernel
theorem dX12_codeOf_7 : decode cX12_codeOf 7 = .ok (.imul, 1) := by decide +kernel
theorem dX12_codeOf_8 : decode cX12_codeOf 8 = .ok (.bipush 10, 2) := by decide +kernel
def vX12_codeOf : List Cond := .code yX12_codeOf cX12_codeOf 2 (some .int) :: ([.methodLink RX12 307 yX12_spotOf, .instanceMethod yX12_spotOf, .selects RX12 yX12_spotOf yX12_spotOf, .initialized RX12, .code yX12_spotOf cX12_spotOf 2 (some .int), .fieldLink RX12 299 "HookPierModel" "pier" "LHookPierModel$Pier;", .methodLink RX12 310 yX12_fathomsOf, .instanceMethod yX12_fathomsOf, .selects RX12 yX12_fathomsOf yX12_fathomsOf, .code yX12_fathomsOf cX12_fathomsOf 2 (some .int), .methodLink RX12 313 yX12_baitOf, .instanceMethod yX12_baitOf, .selects RX12 yX12_baitOf yX12_baitOf, .code yX12_baitOf cX12_baitOf 2 (some .int)] ++ wsX120 ++ wsX110)
theorem iX12_codeOf_X12 : ∀ w ∈ wsX120, w ∈ vX12_codeOf := fun _ h => List.mem_cons_of_mem _ (List.mem_append_left _ (List.mem_append_right _ h))
theorem iX12_codeOf_X11 : ∀ w ∈ wsX110, w ∈ vX12_codeOf := fun _ h => List.mem_cons_of_mem _ (List.mem_append_right _ h)
set_option maxRecDepth 20000 in
theorem gX12_codeOf_0 : GoodIn vX12_codeOf (wsV RX12 307 RX12 yX12_spotOf vX12_spotOf) := goodIn_app (goodIn_r [.methodLink RX12 307 yX12_spotOf, .instanceMethod yX12_spotOf, .selects RX12 yX12_spotOf yX12_spotOf, .initialized RX12] [1, 2, 3, 4] (by decide +kernel) (by decide +kernel)) (goodIn_ca (goodIn_ca (goodIn_r (.code yX12_spotOf cX12_spotOf 2 (some .int) :: [.fieldLink RX12 299 "HookPierModel" "pier" "LHookPierModel$Pier;"]) [5, 6] (by decide +kernel) (by decide +kernel) : GoodIn vX12_codeOf (.code yX12_spotOf cX12_spotOf 2 (some .int) :: [.fieldLink RX12 299 "HookPierModel" "pier" "LHookPierModel$Pier;"])) (goodIn_sub iX12_codeOf_X12 (by decide +kernel))) (goodIn_sub iX12_codeOf_X11 (by decide +kernel)))
set_option maxRecDepth 20000 in
theorem gX12_codeOf_1 : GoodIn vX12_codeOf (wsV RX12 310 RX12 yX12_fathomsOf vX12_fathomsOf) := goodIn_app (goodIn_r [.methodLink RX12 310 yX12_fathomsOf, .instanceMethod yX12_fathomsOf, .selects RX12 yX12_fathomsOf yX12_fathomsOf, .initialized RX12] [7, 8, 9, 4] (by decide +kernel) (by decide +kernel)) (goodIn_ca (goodIn_ca (goodIn_r (.code yX12_fathomsOf cX12_fathomsOf 2 (some .int) :: [.fieldLink RX12 299 "HookPierModel" "pier" "LHookPierModel$Pier;"]) [10, 6] (by decide +kernel) (by decide +kernel) : GoodIn vX12_codeOf (.code yX12_fathomsOf cX12_fathomsOf 2 (some .int) :: [.fieldLink RX12 299 "HookPierModel" "pier" "LHookPierModel$Pier;"])) (goodIn_sub iX12_codeOf_X12 (by decide +kernel))) (goodIn_sub iX12_codeOf_X11 (by decide +kernel)))
set_option maxRecDepth 20000 in
theorem gX12_codeOf_2 : GoodIn vX12_codeOf (wsV RX12 313 RX12 yX12_baitOf vX12_baitOf) := goodIn_app (goodIn_r [.methodLink RX12 313 yX12_baitOf, .instanceMethod yX12_baitOf, .selects RX12 yX12_baitOf yX12_baitOf, .initialized RX12] [11, 12, 13, 4] (by decide +kernel) (by decide +kernel)) (goodIn_ca (goodIn_ca (goodIn_r (.code yX12_baitOf cX12_baitOf 2 (some .int) :: [.fieldLink RX12 299 "HookPierModel" "pier" "LHookPierModel$Pier;"]) [14, 6] (by decide +kernel) (by decide +kernel) : GoodIn vX12_codeOf (.code yX12_baitOf cX12_baitOf 2 (some .int) :: [.fieldLink RX12 299 "HookPierModel" "pier" "LHookPierModel$Pier;"])) (goodIn_sub iX12_codeOf_X12 (by decide +kernel))) (goodIn_sub iX12_codeOf_X11 (by decide +kernel)))
set_option maxHeartbeats 2000000 in
set_option maxRecDepth 100000 in
theorem kX12_codeOf (l : Launch) (dC : Nat → ClassId) (dI : Nat → Nat → Nat) (a0 : Nat) (k1 : Int32) (a2 : Nat) (g3 : Value) (g4 : Value) (g5 : Value) (g6 : Value) (g7 : Value) (g8 : Value) (g9 : Value) (g10 : Value) (g11 : Value) (g12 : Value) (g13 : Value) (g14 : Value) (g15 : Value) (g16 : Value) (g17 : Value) (g18 : Value) (g19 : Value) (g20 : Value) (g21 : Value) (g22 : Value) (g23 : Value) (g24 : Value) (g25 : Value) (g26 : Value) (g27 : Value) (g28 : Value) (g29 : Value) (g30 : Value) (g31 : Value) (g32 : Value) (k33 : Int32) (g34 : Value) (g35 : Value) (k36 : Int32) (g37 : Value) (g38 : Value) (g39 : Value) (g40 : Value) (g41 : Value) (g42 : Value) (g43 : Value) (g44 : Value) (g45 : Value) (g46 : Value) (g47 : Value) (g48 : Value) (g49 : Value) (g50 : Value) (g51 : Value) (g52 : Value) (g53 : Value) (g54 : Value) (g55 : Value) (hk33 : (1 ≤ k33.toInt ∧ k33.toInt ≤ 9)) (hk36 : (1 ≤ k36.toInt ∧ k36.toInt ≤ 4)) (sz : Nat) : Met l yX12_codeOf vX12_codeOf ({ frames := 1, cells := 0, slots := 0, locals := 21 }) (PC (dC, dI) [.ref a0, .int k1] sz [(a0, .inr (9, [g3, g4, g5, .ref a2, g6, g7, g8, g9, g10, g11, g12, g13, g14, g15, g16, g17, g18, g19, g20, g21, g22, g23, g24, g25, g26, g27, g28, g29, g30, g31])), (a2, .inr (8, [g32, .int k33, g34, g35, .int k36, g37, g38, g39, g40, g41, g42, g43, g44, g45, g46, g47, g48, g49, g50, g51, g52, g53, g54, g55]))] []) (va_Qi (S := Unit) (fun (r : Int32) _ => True) (fun _ t => BC (dC, dI) (va_A [(a0, .inr (9, [g3, g4, g5, .ref a2, g6, g7, g8, g9, g10, g11, g12, g13, g14, g15, g16, g17, g18, g19, g20, g21, g22, g23, g24, g25, g26, g27, g28, g29, g30, g31])), (a2, .inr (8, [g32, .int k33, g34, g35, .int k36, g37, g38, g39, g40, g41, g42, g43, g44, g45, g46, g47, g48, g49, g50, g51, g52, g53, g54, g55]))] sz) [(a0, .inr (9, [g3, g4, g5, .ref a2, g6, g7, g8, g9, g10, g11, g12, g13, g14, g15, g16, g17, g18, g19, g20, g21, g22, g23, g24, g25, g26, g27, g28, g29, g30, g31])), (a2, .inr (8, [g32, .int k33, g34, g35, .int k36, g37, g38, g39, g40, g41, g42, g43, g44, g45, g46, g47, g48, g49, g50, g51, g52, g53, g54, g55]))] [] t) (va_A [(a0, .inr (9, [g3, g4, g5, .ref a2, g6, g7, g8, g9, g10, g11, g12, g13, g14, g15, g16, g17, g18, g19, g20, g21, g22, g23, g24, g25, g26, g27, g28, g29, g30, g31])), (a2, .inr (8, [g32, .int k33, g34, g35, .int k36, g37, g38, g39, g40, g41, g42, g43, g44, g45, g46, g47, g48, g49, g50, g51, g52, g53, g54, g55]))] sz)) 0 0 (va_A [(a0, .inr (9, [g3, g4, g5, .ref a2, g6, g7, g8, g9, g10, g11, g12, g13, g14, g15, g16, g17, g18, g19, g20, g21, g22, g23, g24, g25, g26, g27, g28, g29, g30, g31])), (a2, .inr (8, [g32, .int k33, g34, g35, .int k36, g37, g38, g39, g40, g41, g42, g43, g44, g45, g46, g47, g48, g49, g50, g51, g52, g53, g54, g55]))] sz) := by
  refine Met.ofW (cc := cX12_codeOf) (maxL := 2) (ret := (some .int)) (by decide) rfl ?_
  intro p e s m args below meth c s₁ B hml hv
  obtain ⟨rfl, hsz, hP, hK, hD0, hN⟩ := hv
  have hx := B.exec
  have hb := B.bytes
  have hr := B.returns
  have hts := atoms_spec (ws := vX12_codeOf) B.pre
  have hown : s.vm.findClass RX12 = some m.cls := findClass_of_methodNamed B.named
  have hlocks := B.notSynchronized
  subst hsz
  have hD := hD0.self (sz := s.heap.size)
  generalize hAe : va_A [(a0, .inr (9, [g3, g4, g5, .ref a2, g6, g7, g8, g9, g10, g11, g12, g13, g14, g15, g16, g17, g18, g19, g20, g21, g22, g23, g24, g25, g26, g27, g28, g29, g30, g31])), (a2, .inr (8, [g32, .int k33, g34, g35, .int k36, g37, g38, g39, g40, g41, g42, g43, g44, g45, g46, g47, g48, g49, g50, g51, g52, g53, g54, g55]))] s.heap.size = A at hD ⊢
  have hA : ∀ q : Nat, s.heap.size ≤ q → A q := fun q h => by rw [← hAe]; exact Or.inr h
  have hS : va_S A s.heap s.heap [] := va_S.rf
  have hP : va_P (dC, dI) vwCl [(a0, .inr (9, [g3, g4, g5, .ref a2, g6, g7, g8, g9, g10, g11, g12, g13, g14, g15, g16, g17, g18, g19, g20, g21, g22, g23, g24, g25, g26, g27, g28, g29, g30, g31])), (a2, .inr (8, [g32, .int k33, g34, g35, .int k36, g37, g38, g39, g40, g41, g42, g43, g44, g45, g46, g47, g48, g49, g50, g51, g52, g53, g54, g55]))] s.heap := hP
  have hl := lv_entry ([.ref a0, .int k1]) (n := 2) (Nat.le_of_ble_eq_true rfl)
  rw [lg_entry_eq]
  generalize (lg_sl ([.ref a0, .int k1]) ++ List.replicate (2 - (lg_sl ([.ref a0, .int k1])).length) Slot.unset).toArray = ls at hl ⊢
  have hl : lv_has ls 2 [(0, .ref a0), (1, .int k1)] := hl
  refine lv_bipush (v := 100) hx hb dX12_codeOf_0 (by decide) ?_
  refine lv_aload_n hx hb dX12_codeOf_2 rfl (lv_at hl 0 rfl) ?_
  refine lv_iload_n hx hb dX12_codeOf_3 rfl (lv_at hl 1 rfl) ?_
  refine cl_i (wc := [(a0, .inr (9, [g3, g4, g5, .ref a2, g6, g7, g8, g9, g10, g11, g12, g13, g14, g15, g16, g17, g18, g19, g20, g21, g22, g23, g24, g25, g26, g27, g28, g29, g30, g31])), (a2, .inr (8, [g32, .int k33, g34, g35, .int k36, g37, g38, g39, g40, g41, g42, g43, g44, g45, g46, g47, g48, g49, g50, g51, g52, g53, g54, g55]))]) (wr := []) (va_runV (As := [.int k1]) (rest := [.int 100]) ⟨hx, hb, hml, hown, hts⟩ (kX12_spotOf l dC dI a0 k1 a2 (g3) (g4) (g5) (g6) (g7) (g8) (g9) (g10) (g11) (g12) (g13) (g14) (g15) (g16) (g17) (g18) (g19) (g20) (g21) (g22) (g23) (g24) (g25) (g26) (g27) (g28) (g29) (g30) (g31) (g32) k33 (g34) (g35) k36 (g37) (g38) (g39) (g40) (g41) (g42) (g43) (g44) (g45) (g46) (g47) (g48) (g49) (g50) (g51) (g52) (g53) (g54) (g55) (by first | omega | (simp only [ltv_0]; omega)) (by first | omega | (simp only [ltv_0]; omega)) s.heap.size) (cwV 1 hts gX12_codeOf_0 rfl rfl rfl (by decide +kernel) ⟨Nat.le_of_ble_eq_true rfl, Nat.le_of_ble_eq_true rfl⟩) (PV (hP.sub (ws' := [(a0, .inr (9, [g3, g4, g5, .ref a2, g6, g7, g8, g9, g10, g11, g12, g13, g14, g15, g16, g17, g18, g19, g20, g21, g22, g23, g24, g25, g26, g27, g28, g29, g30, g31])), (a2, .inr (8, [g32, .int k33, g34, g35, .int k36, g37, g38, g39, g40, g41, g42, g43, g44, g45, g46, g47, g48, g49, g50, g51, g52, g53, g54, g55]))]) [0, 1] rfl) (hK.sub (tys' := []) [] rfl) (hD.sub (ws' := [(a0, .inr (9, [g3, g4, g5, .ref a2, g6, g7, g8, g9, g10, g11, g12, g13, g14, g15, g16, g17, g18, g19, g20, g21, g22, g23, g24, g25, g26, g27, g28, g29, g30, g31])), (a2, .inr (8, [g32, .int k33, g34, g35, .int k36, g37, g38, g39, g40, g41, g42, g43, g44, g45, g46, g47, g48, g49, g50, g51, g52, g53, g54, g55]))]) [0, 1] (by decide) rfl) hN 0 rfl rfl) rfl rfl hl.1 rfl (lv_room (Nat.le_of_ble_eq_true rfl)) dX12_codeOf_4 ⟨Nat.le_of_ble_eq_true rfl, Nat.le_of_ble_eq_true rfl⟩) hP hD hK hS hA [0, 1] [] rfl rfl (by decide) (by decide) (fun z1 _u H locs hw hP hD hK hS => ?_)
  have b2 := hw
  have hP : va_P (dC, dI) vwCl [(a0, .inr (9, [g3, g4, g5, .ref a2, g6, g7, g8, g9, g10, g11, g12, g13, g14, g15, g16, g17, g18, g19, g20, g21, g22, g23, g24, g25, g26, g27, g28, g29, g30, g31])), (a2, .inr (8, [g32, .int k33, g34, g35, .int k36, g37, g38, g39, g40, g41, g42, g43, g44, g45, g46, g47, g48, g49, g50, g51, g52, g53, g54, g55]))] H := hP
  have hD : va_D A [(a0, .inr (9, [g3, g4, g5, .ref a2, g6, g7, g8, g9, g10, g11, g12, g13, g14, g15, g16, g17, g18, g19, g20, g21, g22, g23, g24, g25, g26, g27, g28, g29, g30, g31])), (a2, .inr (8, [g32, .int k33, g34, g35, .int k36, g37, g38, g39, g40, g41, g42, g43, g44, g45, g46, g47, g48, g49, g50, g51, g52, g53, g54, g55]))] := hD
  have hK : va_K (dC, dI) vwCl [] s := hK
  refine lv_imul hx hb dX12_codeOf_7 ?_
  refine lv_topi (fun z3 ez3 => ?_)
  clear ez3
  refine lv_bipush (v := 10) hx hb dX12_codeOf_8 (by decide) ?_
  refine lv_aload_n hx hb dX12_codeOf_10 rfl (lv_at hl 0 rfl) ?_
  refine lv_iload_n hx hb dX12_codeOf_11 rfl (lv_at hl 1 rfl) ?_
  refine cl_i (wc := [(a0, .inr (9, [g3, g4, g5, .ref a2, g6, g7, g8, g9, g10, g11, g12, g13, g14, g15, g16, g17, g18, g19, g20, g21, g22, g23, g24, g25, g26, g27, g28, g29, g30, g31])), (a2, .inr (8, [g32, .int k33, g34, g35, .int k36, g37, g38, g39, g40, g41, g42, g43, g44, g45, g46, g47, g48, g49, g50, g51, g52, g53, g54, g55]))]) (wr := []) (va_runV (As := [.int k1]) (rest := [.int 10, .int z3]) ⟨hx, hb, hml, hown, hts⟩ (kX12_fathomsOf l dC dI a0 k1 a2 (g3) (g4) (g5) (g6) (g7) (g8) (g9) (g10) (g11) (g12) (g13) (g14) (g15) (g16) (g17) (g18) (g19) (g20) (g21) (g22) (g23) (g24) (g25) (g26) (g27) (g28) (g29) (g30) (g31) (g32) k33 (g34) (g35) k36 (g37) (g38) (g39) (g40) (g41) (g42) (g43) (g44) (g45) (g46) (g47) (g48) (g49) (g50) (g51) (g52) (g53) (g54) (g55) (by first | omega | (simp only [ltv_0]; omega)) (by first | omega | (simp only [ltv_0]; omega)) H.size) (cwV 1 hts gX12_codeOf_1 rfl rfl rfl (by decide +kernel) ⟨Nat.le_of_ble_eq_true rfl, Nat.le_of_ble_eq_true rfl⟩) (PV (hP.sub (ws' := [(a0, .inr (9, [g3, g4, g5, .ref a2, g6, g7, g8, g9, g10, g11, g12, g13, g14, g15, g16, g17, g18, g19, g20, g21, g22, g23, g24, g25, g26, g27, g28, g29, g30, g31])), (a2, .inr (8, [g32, .int k33, g34, g35, .int k36, g37, g38, g39, g40, g41, g42, g43, g44, g45, g46, g47, g48, g49, g50, g51, g52, g53, g54, g55]))]) [0, 1] rfl) (hK.sub (tys' := []) [] rfl) (hD.sub (ws' := [(a0, .inr (9, [g3, g4, g5, .ref a2, g6, g7, g8, g9, g10, g11, g12, g13, g14, g15, g16, g17, g18, g19, g20, g21, g22, g23, g24, g25, g26, g27, g28, g29, g30, g31])), (a2, .inr (8, [g32, .int k33, g34, g35, .int k36, g37, g38, g39, g40, g41, g42, g43, g44, g45, g46, g47, g48, g49, g50, g51, g52, g53, g54, g55]))]) [0, 1] (by decide) rfl) hN 0 rfl rfl) rfl rfl hl.1 rfl (lv_room (Nat.le_of_ble_eq_true rfl)) dX12_codeOf_12 ⟨Nat.le_of_ble_eq_true rfl, Nat.le_of_ble_eq_true rfl⟩) hP hD hK hS hA [0, 1] [] rfl rfl (by decide) (by decide) (fun z4 _u H locs hw hP hD hK hS => ?_)
  have b5 := hw
  have hP : va_P (dC, dI) vwCl [(a0, .inr (9, [g3, g4, g5, .ref a2, g6, g7, g8, g9, g10, g11, g12, g13, g14, g15, g16, g17, g18, g19, g20, g21, g22, g23, g24, g25, g26, g27, g28, g29, g30, g31])), (a2, .inr (8, [g32, .int k33, g34, g35, .int k36, g37, g38, g39, g40, g41, g42, g43, g44, g45, g46, g47, g48, g49, g50, g51, g52, g53, g54, g55]))] H := hP
  have hD : va_D A [(a0, .inr (9, [g3, g4, g5, .ref a2, g6, g7, g8, g9, g10, g11, g12, g13, g14, g15, g16, g17, g18, g19, g20, g21, g22, g23, g24, g25, g26, g27, g28, g29, g30, g31])), (a2, .inr (8, [g32, .int k33, g34, g35, .int k36, g37, g38, g39, g40, g41, g42, g43, g44, g45, g46, g47, g48, g49, g50, g51, g52, g53, g54, g55]))] := hD
  have hK : va_K (dC, dI) vwCl [] s := hK
  refine lv_imul hx hb dX12_codeOf_15 ?_
  refine lv_topi (fun z6 ez6 => ?_)
  clear ez6
  refine lv_iadd hx hb dX12_codeOf_16 ?_
  refine lv_topi (fun z7 ez7 => ?_)
  clear ez7
  refine lv_aload_n hx hb dX12_codeOf_17 rfl (lv_at hl 0 rfl) ?_
  refine lv_iload_n hx hb dX12_codeOf_18 rfl (lv_at hl 1 rfl) ?_
  refine cl_i (wc := [(a0, .inr (9, [g3, g4, g5, .ref a2, g6, g7, g8, g9, g10, g11, g12, g13, g14, g15, g16, g17, g18, g19, g20, g21, g22, g23, g24, g25, g26, g27, g28, g29, g30, g31])), (a2, .inr (8, [g32, .int k33, g34, g35, .int k36, g37, g38, g39, g40, g41, g42, g43, g44, g45, g46, g47, g48, g49, g50, g51, g52, g53, g54, g55]))]) (wr := []) (va_runV (As := [.int k1]) (rest := [.int z7]) ⟨hx, hb, hml, hown, hts⟩ (kX12_baitOf l dC dI a0 k1 a2 (g3) (g4) (g5) (g6) (g7) (g8) (g9) (g10) (g11) (g12) (g13) (g14) (g15) (g16) (g17) (g18) (g19) (g20) (g21) (g22) (g23) (g24) (g25) (g26) (g27) (g28) (g29) (g30) (g31) (g32) (.int k33) (g34) (g35) k36 (g37) (g38) (g39) (g40) (g41) (g42) (g43) (g44) (g45) (g46) (g47) (g48) (g49) (g50) (g51) (g52) (g53) (g54) (g55) (by first | omega | (simp only [ltv_0]; omega)) H.size) (cwV 1 hts gX12_codeOf_2 rfl rfl rfl (by decide +kernel) ⟨Nat.le_of_ble_eq_true rfl, Nat.le_of_ble_eq_true rfl⟩) (PV (hP.sub (ws' := [(a0, .inr (9, [g3, g4, g5, .ref a2, g6, g7, g8, g9, g10, g11, g12, g13, g14, g15, g16, g17, g18, g19, g20, g21, g22, g23, g24, g25, g26, g27, g28, g29, g30, g31])), (a2, .inr (8, [g32, .int k33, g34, g35, .int k36, g37, g38, g39, g40, g41, g42, g43, g44, g45, g46, g47, g48, g49, g50, g51, g52, g53, g54, g55]))]) [0, 1] rfl) (hK.sub (tys' := []) [] rfl) (hD.sub (ws' := [(a0, .inr (9, [g3, g4, g5, .ref a2, g6, g7, g8, g9, g10, g11, g12, g13, g14, g15, g16, g17, g18, g19, g20, g21, g22, g23, g24, g25, g26, g27, g28, g29, g30, g31])), (a2, .inr (8, [g32, .int k33, g34, g35, .int k36, g37, g38, g39, g40, g41, g42, g43, g44, g45, g46, g47, g48, g49, g50, g51, g52, g53, g54, g55]))]) [0, 1] (by decide) rfl) hN 0 rfl rfl) rfl rfl hl.1 rfl (lv_room (Nat.le_of_ble_eq_true rfl)) dX12_codeOf_19 ⟨Nat.le_of_ble_eq_true rfl, Nat.le_of_ble_eq_true rfl⟩) hP hD hK hS hA [0, 1] [] rfl rfl (by decide) (by decide) (fun z8 _u H locs hw hP hD hK hS => ?_)
  have b9 := hw
  have hP : va_P (dC, dI) vwCl [(a0, .inr (9, [g3, g4, g5, .ref a2, g6, g7, g8, g9, g10, g11, g12, g13, g14, g15, g16, g17, g18, g19, g20, g21, g22, g23, g24, g25, g26, g27, g28, g29, g30, g31])), (a2, .inr (8, [g32, .int k33, g34, g35, .int k36, g37, g38, g39, g40, g41, g42, g43, g44, g45, g46, g47, g48, g49, g50, g51, g52, g53, g54, g55]))] H := hP
  have hD : va_D A [(a0, .inr (9, [g3, g4, g5, .ref a2, g6, g7, g8, g9, g10, g11, g12, g13, g14, g15, g16, g17, g18, g19, g20, g21, g22, g23, g24, g25, g26, g27, g28, g29, g30, g31])), (a2, .inr (8, [g32, .int k33, g34, g35, .int k36, g37, g38, g39, g40, g41, g42, g43, g44, g45, g46, g47, g48, g49, g50, g51, g52, g53, g54, g55]))] := hD
  have hK : va_K (dC, dI) vwCl [] s := hK
  refine lv_iadd hx hb dX12_codeOf_22 ?_
  refine lv_topi (fun z10 ez10 => ?_)
  clear ez10
  have hP9 := hP.sub (ws' := [(a0, .inr (9, [g3, g4, g5, .ref a2, g6, g7, g8, g9, g10, g11, g12, g13, g14, g15, g16, g17, g18, g19, g20, g21, g22, g23, g24, g25, g26, g27, g28, g29, g30, g31])), (a2, .inr (8, [g32, .int k33, g34, g35, .int k36, g37, g38, g39, g40, g41, g42, g43, g44, g45, g46, g47, g48, g49, g50, g51, g52, g53, g54, g55]))]) [0, 1] rfl
  have hD9 := hD.sub (ws' := [(a0, .inr (9, [g3, g4, g5, .ref a2, g6, g7, g8, g9, g10, g11, g12, g13, g14, g15, g16, g17, g18, g19, g20, g21, g22, g23, g24, g25, g26, g27, g28, g29, g30, g31])), (a2, .inr (8, [g32, .int k33, g34, g35, .int k36, g37, g38, g39, g40, g41, g42, g43, g44, g45, g46, g47, g48, g49, g50, g51, g52, g53, g54, g55]))]) [0, 1] (by decide) rfl
  have hK9 := hK.sub (tys' := []) [] rfl
  exact W.iret (v := z10) hx hb hr (fun t ht hW => ⟨⟨z10, (), rfl, trivial, by rw [ht]; exact hP9, va_K.moved hW.alike hK9, hD9⟩, hS.F ht⟩) hS.2.2 dX12_codeOf_23
theorem dX12_question_0 : decode cX12_question 0 = .ok (.iload_n 1, 1) := by decide +kernel
theorem dX12_question_1 : decode cX12_question 1 = .ok (.aload_n 0, 1) := by decide +kernel
theorem dX12_question_10 : decode cX12_question 10 = .ok (.iadd, 1) := by decide +kernel
theorem dX12_question_11 : decode cX12_question 11 = .ok (.iconst 1, 1) := by decide +kernel
theorem dX12_question_12 : decode cX12_question 12 = .ok (.isub, 1) := by decide +kernel
theorem dX12_question_13 : decode cX12_question 13 = .ok (.aload_n 0, 1) := by decide +kernel
theorem dX12_question_14 : decode cX12_question 14 = .ok (.getfield 299, 3) := by decide +kernel
theorem dX12_question_17 : decode cX12_question 17 = .ok (.getfield 175, 3) := by decide +kernel
theorem dX12_question_2 : decode cX12_question 2 = .ok (.getfield 299, 3) := by decide +kernel
theorem dX12_question_20 : decode cX12_question 20 = .ok (.imul, 1) := by decide +kernel
theorem dX12_question_21 : decode cX12_question 21 = .ok (.iload_n 3, 1) := by decide +kernel
theorem dX12_question_22 : decode cX12_question 22 = .ok (.iadd, 1) := by decide +kernel
theorem dX12_question_23 : decode cX12_question 23 = .ok (.ireturn, 1) := by decide +kernel
theorem dX12_question_5 : decode cX12_question 5 = .ok (.getfield 207, 3) := by decide +kernel
theorem dX12_question_8 : decode cX12_question 8 = .ok (.imul, 1) := by decide +kernel
theorem dX12_question_9 : decode cX12_question 9 = .ok (.iload_n 2, 1) := by decide +kernel
def vX12_question : List Cond := .code yX12_question cX12_question 4 (some .int) :: ([.fieldLink RX12 299 "HookPierModel" "pier" "LHookPierModel$Pier;"] ++ wsX120 ++ wsX110)
theorem iX12_question_X12 : ∀ w ∈ wsX120, w ∈ vX12_question := fun _ h => List.mem_cons_of_mem _ (List.mem_append_left _ (List.mem_append_right _ h))
theorem iX12_question_X11 : ∀ w ∈ wsX110, w ∈ vX12_question := fun _ h => List.mem_cons_of_mem _ (List.mem_append_right _ h)
set_option maxHeartbeats 2000000 in
set_option maxRecDepth 100000 in
theorem kX12_question (l : Launch) (dC : Nat → ClassId) (dI : Nat → Nat → Nat) (a0 : Nat) (k1 : Int32) (k2 : Int32) (k3 : Int32) (a4 : Nat) (g5 : Value) (g6 : Value) (g7 : Value) (g8 : Value) (g9 : Value) (g10 : Value) (g11 : Value) (g12 : Value) (g13 : Value) (g14 : Value) (g15 : Value) (g16 : Value) (g17 : Value) (g18 : Value) (g19 : Value) (g20 : Value) (g21 : Value) (g22 : Value) (g23 : Value) (g24 : Value) (g25 : Value) (g26 : Value) (g27 : Value) (g28 : Value) (g29 : Value) (g30 : Value) (g31 : Value) (g32 : Value) (g33 : Value) (g34 : Value) (k35 : Int32) (g36 : Value) (g37 : Value) (k38 : Int32) (g39 : Value) (g40 : Value) (g41 : Value) (g42 : Value) (g43 : Value) (g44 : Value) (g45 : Value) (g46 : Value) (g47 : Value) (g48 : Value) (g49 : Value) (g50 : Value) (g51 : Value) (g52 : Value) (g53 : Value) (g54 : Value) (g55 : Value) (g56 : Value) (g57 : Value) (hk35 : (1 ≤ k35.toInt ∧ k35.toInt ≤ 9)) (hk38 : (1 ≤ k38.toInt ∧ k38.toInt ≤ 4)) (sz : Nat) : Met l yX12_question vX12_question ({ frames := 0, cells := 0, slots := 0, locals := 0 }) (PC (dC, dI) [.ref a0, .int k1, .int k2, .int k3] sz [(a0, .inr (9, [g5, g6, g7, .ref a4, g8, g9, g10, g11, g12, g13, g14, g15, g16, g17, g18, g19, g20, g21, g22, g23, g24, g25, g26, g27, g28, g29, g30, g31, g32, g33])), (a4, .inr (8, [g34, .int k35, g36, g37, .int k38, g39, g40, g41, g42, g43, g44, g45, g46, g47, g48, g49, g50, g51, g52, g53, g54, g55, g56, g57]))] []) (va_Qi (S := Unit) (fun (r : Int32) _ => True) (fun _ t => BC (dC, dI) (va_A [(a0, .inr (9, [g5, g6, g7, .ref a4, g8, g9, g10, g11, g12, g13, g14, g15, g16, g17, g18, g19, g20, g21, g22, g23, g24, g25, g26, g27, g28, g29, g30, g31, g32, g33])), (a4, .inr (8, [g34, .int k35, g36, g37, .int k38, g39, g40, g41, g42, g43, g44, g45, g46, g47, g48, g49, g50, g51, g52, g53, g54, g55, g56, g57]))] sz) [(a0, .inr (9, [g5, g6, g7, .ref a4, g8, g9, g10, g11, g12, g13, g14, g15, g16, g17, g18, g19, g20, g21, g22, g23, g24, g25, g26, g27, g28, g29, g30, g31, g32, g33])), (a4, .inr (8, [g34, .int k35, g36, g37, .int k38, g39, g40, g41, g42, g43, g44, g45, g46, g47, g48, g49, g50, g51, g52, g53, g54, g55, g56, g57]))] [] t) (va_A [(a0, .inr (9, [g5, g6, g7, .ref a4, g8, g9, g10, g11, g12, g13, g14, g15, g16, g17, g18, g19, g20, g21, g22, g23, g24, g25, g26, g27, g28, g29, g30, g31, g32, g33])), (a4, .inr (8, [g34, .int k35, g36, g37, .int k38, g39, g40, g41, g42, g43, g44, g45, g46, g47, g48, g49, g50, g51, g52, g53, g54, g55, g56, g57]))] sz)) 0 0 (va_A [(a0, .inr (9, [g5, g6, g7, .ref a4, g8, g9, g10, g11, g12, g13, g14, g15, g16, g17, g18, g19, g20, g21, g22, g23, g24, g25, g26, g27, g28, g29, g30, g31, g32, g33])), (a4, .inr (8, [g34, .int k35, g36, g37, .int k38, g39, g40, g41, g42, g43, g44, g45, g46, g47, g48, g49, g50, g51, g52, g53, g54, g55, g56, g57]))] sz) := by
  refine Met.ofW (cc := cX12_question) (maxL := 4) (ret := (some .int)) (by decide) rfl ?_
  intro p e s m args below meth c s₁ B hml hv
  obtain ⟨rfl, hsz, hP, hK, hD0, hN⟩ := hv
  have hx := B.exec
  have hb := B.bytes
  have hr := B.returns
  have hts := atoms_spec (ws := vX12_question) B.pre
  have hown : s.vm.findClass RX12 = some m.cls := findClass_of_methodNamed B.named
  have hlocks := B.notSynchronized
  subst hsz
  have hD := hD0.self (sz := s.heap.size)
  generalize hAe : va_A [(a0, .inr (9, [g5, g6, g7, .ref a4, g8, g9, g10, g11, g12, g13, g14, g15, g16, g17, g18, g19, g20, g21, g22, g23, g24, g25, g26, g27, g28, g29, g30, g31, g32, g33])), (a4, .inr (8, [g34, .int k35, g36, g37, .int k38, g39, g40, g41, g42, g43, g44, g45, g46, g47, g48, g49, g50, g51, g52, g53, g54, g55, g56, g57]))] s.heap.size = A at hD ⊢
  have hA : ∀ q : Nat, s.heap.size ≤ q → A q := fun q h => by rw [← hAe]; exact Or.inr h
  have hS : va_S A s.heap s.heap [] := va_S.rf
  have hP : va_P (dC, dI) vwCl [(a0, .inr (9, [g5, g6, g7, .ref a4, g8, g9, g10, g11, g12, g13, g14, g15, g16, g17, g18, g19, g20, g21, g22, g23, g24, g25, g26, g27, g28, g29, g30, g31, g32, g33])), (a4, .inr (8, [g34, .int k35, g36, g37, .int k38, g39, g40, g41, g42, g43, g44, g45, g46, g47, g48, g49, g50, g51, g52, g53, g54, g55, g56, g57]))] s.heap := hP
  have hl := lv_entry ([.ref a0, .int k1, .int k2, .int k3]) (n := 4) (Nat.le_of_ble_eq_true rfl)
  rw [lg_entry_eq]
  generalize (lg_sl ([.ref a0, .int k1, .int k2, .int k3]) ++ List.replicate (4 - (lg_sl ([.ref a0, .int k1, .int k2, .int k3])).length) Slot.unset).toArray = ls at hl ⊢
  have hl : lv_has ls 4 [(0, .ref a0), (1, .int k1), (2, .int k2), (3, .int k3)] := hl
  refine lv_iload_n hx hb dX12_question_0 rfl (lv_at hl 1 rfl) ?_
  refine lv_aload_n hx hb dX12_question_1 rfl (lv_at hl 0 rfl) ?_
  refine va_get (D := (dC, dI)) (ci := 9) (v := .ref a4) (C := RX12) (T := TX12) (N := 30) hx hb hts iX12_question_X12 hown hK hP 0 rfl rfl 3 (by decide) (hts (.fieldLink RX12 299 "HookPierModel" "pier" "LHookPierModel$Pier;") (List.mem_of_getElem? (i := 1) rfl)) (fun _ h9 => h9) rfl dX12_question_2 ?_
  refine va_getN (D := (dC, dI)) (ci := 8) (v := .int k35) (C := RX11) (T := TX11) (N := 24) hx hb hts iX12_question_X11 hown hK hP 1 rfl rfl 1 (by decide) (va_Nw.use rfl (hN.1 (.fieldLinkNest RX12 207 "HookPierModel$Pier" "deep" "I" "HookPierModel") (List.mem_of_getElem? (i := 23) rfl))) (fun _ h9 => h9) rfl dX12_question_5 ?_
  refine lv_imul hx hb dX12_question_8 ?_
  refine lv_topi (fun z1 ez1 => ?_)
  clear ez1
  refine lv_iload_n hx hb dX12_question_9 rfl (lv_at hl 2 rfl) ?_
  refine lv_iadd hx hb dX12_question_10 ?_
  refine lv_topi (fun z2 ez2 => ?_)
  clear ez2
  refine lv_iconst (v := 1) hx hb dX12_question_11 (by decide) ?_
  refine lv_isub hx hb dX12_question_12 ?_
  refine lv_topi (fun z3 ez3 => ?_)
  clear ez3
  refine lv_aload_n hx hb dX12_question_13 rfl (lv_at hl 0 rfl) ?_
  refine va_get (D := (dC, dI)) (ci := 9) (v := .ref a4) (C := RX12) (T := TX12) (N := 30) hx hb hts iX12_question_X12 hown hK hP 0 rfl rfl 3 (by decide) (hts (.fieldLink RX12 299 "HookPierModel" "pier" "LHookPierModel$Pier;") (List.mem_of_getElem? (i := 1) rfl)) (fun _ h9 => h9) rfl dX12_question_14 ?_
  refine va_getN (D := (dC, dI)) (ci := 8) (v := .int k38) (C := RX11) (T := TX11) (N := 24) hx hb hts iX12_question_X11 hown hK hP 1 rfl rfl 4 (by decide) (va_Nw.use rfl (hN.1 (.fieldLinkNest RX12 175 "HookPierModel$Pier" "baits" "I" "HookPierModel") (List.mem_of_getElem? (i := 26) rfl))) (fun _ h9 => h9) rfl dX12_question_17 ?_
  refine lv_imul hx hb dX12_question_20 ?_
  refine lv_topi (fun z4 ez4 => ?_)
  clear ez4
  refine lv_iload_n hx hb dX12_question_21 rfl (lv_at hl 3 rfl) ?_
  refine lv_iadd hx hb dX12_question_22 ?_
  refine lv_topi (fun z5 ez5 => ?_)
  clear ez5
  have hP9 := hP.sub (ws' := [(a0, .inr (9, [g5, g6, g7, .ref a4, g8, g9, g10, g11, g12, g13, g14, g15, g16, g17, g18, g19, g20, g21, g22, g23, g24, g25, g26, g27, g28, g29, g30, g31, g32, g33])), (a4, .inr (8, [g34, .int k35, g36, g37, .int k38, g39, g40, g41, g42, g43, g44, g45, g46, g47, g48, g49, g50, g51, g52, g53, g54, g55, g56, g57]))]) [0, 1] rfl
  have hD9 := hD.sub (ws' := [(a0, .inr (9, [g5, g6, g7, .ref a4, g8, g9, g10, g11, g12, g13, g14, g15, g16, g17, g18, g19, g20, g21, g22, g23, g24, g25, g26, g27, g28, g29, g30, g31, g32, g33])), (a4, .inr (8, [g34, .int k35, g36, g37, .int k38, g39, g40, g41, g42, g43, g44, g45, g46, g47, g48, g49, g50, g51, g52, g53, g54, g55, g56, g57]))]) [0, 1] (by decide) rfl
  have hK9 := hK.sub (tys' := []) [] rfl
  exact W.iret (v := z5) hx hb hr (fun t ht hW => ⟨⟨z5, (), rfl, trivial, by rw [ht]; exact hP9, va_K.moved hW.alike hK9, hD9⟩, hS.F ht⟩) hS.2.2 dX12_question_23
theorem dX11_cut_0 : decode cX11_cut 0 = .ok (.iload_n 0, 1) := by decide +kernel
theorem dX11_cut_1 : decode cX11_cut 1 = .ok (.ifCond .ge 7, 3) := by decide +kernel
theorem dX11_cut_11 : decode cX11_cut 11 = .ok (.if_icmp .le 8, 3) := by decide +kernel
theorem dX11_cut_14 : decode cX11_cut 14 = .ok (.bipush 100, 2) := by decide +kernel
theorem dX11_cut_16 : decode cX11_cut 16 = .ok (.goto 4, 3) := by decide +kernel
theorem dX11_cut_19 : decode cX11_cut 19 = .ok (.iload_n 0, 1) := by decide +kernel
theorem dX11_cut_20 : decode cX11_cut 20 = .ok (.ireturn, 1) := by decide +kernel
theorem dX11_cut_4 : decode cX11_cut 4 = .ok (.iconst 0, 1) := by decide +kernel
theorem dX11_cut_5 : decode cX11_cut 5 = .ok (.goto 15, 3) := by decide +kernel
theorem dX11_cut_8 : decode cX11_cut 8 = .ok (.iload_n 0, 1) := by decide +kernel
theorem dX11_cut_9 : decode cX11_cut 9 = .ok (.bipush 100, 2) := by decide +kernel
def vX11_cut : List Cond := .code yX11_cut cX11_cut 1 (some .int) :: ([])
set_option maxHeartbeats 2000000 in
set_option maxRecDepth 100000 in
theorem kX11_cut (l : Launch) (dC : Nat → ClassId) (dI : Nat → Nat → Nat) (k0 : Int32) (sz : Nat) : Met l yX11_cut vX11_cut ({ frames := 0, cells := 0, slots := 0, locals := 0 }) (PC (dC, dI) [.int k0] sz [] []) (va_Qi (S := Unit) (fun (r : Int32) _ => (0 ≤ r.toInt ∧ r.toInt ≤ 100)) (fun _ t => BC (dC, dI) (va_A [] sz) [] [] t) (va_A [] sz)) 0 0 (va_A [] sz) := by
  refine Met.ofW (cc := cX11_cut) (maxL := 1) (ret := (some .int)) (by decide) rfl ?_
  intro p e s m args below meth c s₁ B hml hv
  obtain ⟨rfl, hsz, hP, hK, hD0, hN⟩ := hv
  have hx := B.exec
  have hb := B.bytes
  have hr := B.returns
  have hts := atoms_spec (ws := vX11_cut) B.pre
  have hown : s.vm.findClass RX11 = some m.cls := findClass_of_methodNamed B.named
  have hlocks := B.notSynchronized
  subst hsz
  have hD := hD0.self (sz := s.heap.size)
  generalize hAe : va_A [] s.heap.size = A at hD ⊢
  have hA : ∀ q : Nat, s.heap.size ≤ q → A q := fun q h => by rw [← hAe]; exact Or.inr h
  have hS : va_S A s.heap s.heap [] := va_S.rf
  have hP : va_P (dC, dI) vwCl [] s.heap := hP
  have hl := lv_entry ([.int k0]) (n := 1) (Nat.le_of_ble_eq_true rfl)
  rw [lg_entry_eq]
  generalize (lg_sl ([.int k0]) ++ List.replicate (1 - (lg_sl ([.int k0])).length) Slot.unset).toArray = ls at hl ⊢
  have hl : lv_has ls 1 [(0, .int k0)] := hl
  refine lv_iload_n hx hb dX11_cut_0 rfl (lv_at hl 0 rfl) ?_
  refine lv_if_ge (tgt := 8) hx hb dX11_cut_1 (by decide) (fun c1 => ?_) (fun c1 => ?_)
  · simp only [fa_lt, fa_le, fa_eq, ltv_0] at c1
    refine lv_iload_n hx hb dX11_cut_8 rfl (lv_at hl 0 rfl) ?_
    refine lv_bipush (v := 100) hx hb dX11_cut_9 (by decide) ?_
    refine lv_icmp_le (tgt := 19) hx hb dX11_cut_11 (by decide) (fun c2 => ?_) (fun c2 => ?_)
    · simp only [fa_lt, fa_le, fa_eq, ltv_0, ltv_100] at c2
      refine lv_iload_n hx hb dX11_cut_19 rfl (lv_at hl 0 rfl) ?_
      have hP9 := hP.sub (ws' := []) [] rfl
      have hD9 := hD.sub (ws' := []) [] (by decide) rfl
      have hK9 := hK.sub (tys' := []) [] rfl
      exact W.iret (v := k0) hx hb hr (fun t ht hW => ⟨⟨k0, (), rfl, (by first | trivial | omega | (simp only [ltv_0]; omega)), by rw [ht]; exact hP9, va_K.moved hW.alike hK9, hD9⟩, hS.F ht⟩) hS.2.2 dX11_cut_20
    · simp only [fa_lt, fa_le, fa_eq, ltv_0, ltv_100] at c2
      refine lv_bipush (v := 100) hx hb dX11_cut_14 (by decide) ?_
      refine lv_goto (tgt := 20) hx hb dX11_cut_16 (by decide) ?_
      have hP9 := hP.sub (ws' := []) [] rfl
      have hD9 := hD.sub (ws' := []) [] (by decide) rfl
      have hK9 := hK.sub (tys' := []) [] rfl
      exact W.iret (v := 100) hx hb hr (fun t ht hW => ⟨⟨100, (), rfl, (by first | trivial | omega | (simp only [ltv_0, ltv_100]; omega)), by rw [ht]; exact hP9, va_K.moved hW.alike hK9, hD9⟩, hS.F ht⟩) hS.2.2 dX11_cut_20
  · simp only [fa_lt, fa_le, fa_eq, ltv_0] at c1
    refine lv_iconst (v := 0) hx hb dX11_cut_4 (by decide) ?_
    refine lv_goto (tgt := 20) hx hb dX11_cut_5 (by decide) ?_
    have hP9 := hP.sub (ws' := []) [] rfl
    have hD9 := hD.sub (ws' := []) [] (by decide) rfl
    have hK9 := hK.sub (tys' := []) [] rfl
    exact W.iret (v := 0) hx hb hr (fun t ht hW => ⟨⟨0, (), rfl, (by first | trivial | omega | (simp only [ltv_0]; omega)), by rw [ht]; exact hP9, va_K.moved hW.alike hK9, hD9⟩, hS.F ht⟩) hS.2.2 dX11_cut_20
theorem dX11_wishBy_0 : decode cX11_wishBy 0 = .ok (.iload_n 1, 1) := by decide +kernel
theorem dX11_wishBy_1 : decode cX11_wishBy 1 = .ok (.aload_n 0, 1) := by decide +kernel
theorem dX11_wishBy_11 : decode cX11_wishBy 11 = .ok (.bipush (-20), 2) := by decide +kernel
theorem dX11_wishBy_13 : decode cX11_wishBy 13 = .ok (.goto 20, 3) := by decide +kernel
theorem dX11_wishBy_16 : decode cX11_wishBy 16 = .ok (.aload_n 0, 1) := by decide +kernel
theorem dX11_wishBy_17 : decode cX11_wishBy 17 = .ok (.getfield 31, 3) := by decide +kernel
theorem dX11_wishBy_2 : decode cX11_wishBy 2 = .ok (.getfield 19, 3) := by decide +kernel
theorem dX11_wishBy_20 : decode cX11_wishBy 20 = .ok (.iload_n 2, 1) := by decide +kernel
theorem dX11_wishBy_21 : decode cX11_wishBy 21 = .ok (.iaload, 1) := by decide +kernel
theorem dX11_wishBy_22 : decode cX11_wishBy 22 = .ok (.iload 5, 2) := by decide +kernel
theorem dX11_wishBy_24 : decode cX11_wishBy 24 = .ok (.if_icmp .ne 8, 3) := by decide +kernel
theorem dX11_wishBy_27 : decode cX11_wishBy 27 = .ok (.bipush 20, 2) := by decide +kernel
theorem dX11_wishBy_29 : decode cX11_wishBy 29 = .ok (.goto 4, 3) := by decide +kernel
theorem dX11_wishBy_32 : decode cX11_wishBy 32 = .ok (.iconst 0, 1) := by decide +kernel
theorem dX11_wishBy_33 : decode cX11_wishBy 33 = .ok (.iadd, 1) := by decide +kernel
theorem dX11_wishBy_34 : decode cX11_wishBy 34 = .ok (.bipush 10, 2) := by decide +kernel
theorem dX11_wishBy_36 : decode cX11_wishBy 36 = .ok (.aload_n 0, 1) := by decide +kernel
theorem dX11_wishBy_37 : decode cX11_wishBy 37 = .ok (.getfield 22, 3) := by decide +kernel
theorem dX11_wishBy_40 : decode cX11_wishBy 40 = .ok (.iload_n 2, 1) := by decide +kernel
theorem dX11_wishBy_41 : decode cX11_wishBy 41 = .ok (.iaload, 1) := by decide +kernel
theorem dX11_wishBy_42 : decode cX11_wishBy 42 = .ok (.iload_n 3, 1) := by decide +kernel
theorem dX11_wishBy_43 : decode cX11_wishBy 43 = .ok (.invokestatic 66, 3) := by decide +kernel
theorem dX11_wishBy_46 : decode cX11_wishBy 46 = .ok (.imul, 1) := by decide +kernel
theorem dX11_wishBy_47 : decode cX11_wishBy 47 = .ok (.isub, 1) := by decide +kernel
theorem dX11_wishBy_48 : decode cX11_wishBy 48 = .ok (.istore 6, 2) := by decide +kernel
theorem dX11_wishBy_5 : decode cX11_wishBy 5 = .ok (.iload_n 2, 1) := by decide +kernel
theorem dX11_wishBy_50 : decode cX11_wishBy 50 = .ok (.aload_n 0, 1) := by decide +kernel
theorem dX11_wishBy_51 : decode cX11_wishBy 51 = .ok (.getfield 19, 3) := by decide +kernel
theorem dX11_wishBy_54 : decode cX11_wishBy 54 = .ok (.iload_n 2, 1) := by decide +kernel
theorem dX11_wishBy_55 : decode cX11_wishBy 55 = .ok (.iaload, 1) := by decide +kernel
theorem dX11_wishBy_56 : decode cX11_wishBy 56 = .ok (.iconst 2, 1) := by decide +kernel
theorem dX11_wishBy_57 : decode cX11_wishBy 57 = .ok (.if_icmp .ne 8, 3) := by decide +kernel
theorem dX11_wishBy_6 : decode cX11_wishBy 6 = .ok (.iaload, 1) := by decide +kernel
theorem dX11_wishBy_60 : decode cX11_wishBy 60 = .ok (.iload 6, 2) := by decide +kernel
theorem dX11_wishBy_62 : decode cX11_wishBy 62 = .ok (.goto 20, 3) := by decide +kernel
theorem dX11_wishBy_65 : decode cX11_wishBy 65 = .ok (.iload 6, 2) := by decide +kernel
theorem dX11_wishBy_67 : decode cX11_wishBy 67 = .ok (.bipush 8, 2) := by decide +kernel
theorem dX11_wishBy_69 : decode cX11_wishBy 69 = .ok (.aload_n 0, 1) := by decide +kernel
theorem dX11_wishBy_7 : decode cX11_wishBy 7 = .ok (.iconst 3, 1) := by decide +kernel
theorem dX11_wishBy_70 : decode cX11_wishBy 70 = .ok (.getfield 25, 3) := by decide +kernel
theorem dX11_wishBy_73 : decode cX11_wishBy 73 = .ok (.iload_n 2, 1) := by decide +kernel
theorem dX11_wishBy_74 : decode cX11_wishBy 74 = .ok (.iaload, 1) := by decide +kernel
theorem dX11_wishBy_75 : decode cX11_wishBy 75 = .ok (.iload 4, 2) := by decide +kernel
theorem dX11_wishBy_77 : decode cX11_wishBy 77 = .ok (.invokestatic 66, 3) := by decide +kernel
theorem dX11_wishBy_8 : decode cX11_wishBy 8 = .ok (.if_icmp .ne 8, 3) := by decide +kernel
theorem dX11_wishBy_80 : decode cX11_wishBy 80 = .ok (.imul, 1) := by decide +kernel
theorem dX11_wishBy_81 : decode cX11_wishBy 81 = .ok (.isub, 1) := by decide +kernel
theorem dX11_wishBy_82 : decode cX11_wishBy 82 = .ok (.invokestatic 70, 3) := by decide +kernel
theorem dX11_wishBy_85 : decode cX11_wishBy 85 = .ok (.ireturn, 1) := by decide +kernel
def vX11_wishBy : List Cond := .code yX11_wishBy cX11_wishBy 7 (some .int) :: ([.fieldLink RX11 19 "HookPierModel$Pier" "kind" "[I", .fieldLink RX11 31 "HookPierModel$Pier" "likes" "[I", .fieldLink RX11 22 "HookPierModel$Pier" "spot" "[I", .code yX12_apart cX12_apart 2 (some .int), .initialized RX12, .static yX12_apart, .fieldLink RX11 25 "HookPierModel$Pier" "depth" "[I", .methodLink RX11 70 yX11_cut, .static yX11_cut, .initialized RX11, .code yX11_cut cX11_cut 1 (some .int)] ++ wsX110)
theorem iX11_wishBy_X11 : ∀ w ∈ wsX110, w ∈ vX11_wishBy := fun _ h => List.mem_cons_of_mem _ (List.mem_append_right _ h)
set_option maxRecDepth 20000 in
theorem gX11_wishBy_0 : GoodIn vX11_wishBy vX12_apart := (goodIn_r (.code yX12_apart cX12_apart 2 (some .int) :: []) [4] (by decide +kernel) (by decide +kernel) : GoodIn vX11_wishBy (.code yX12_apart cX12_apart 2 (some .int) :: []))
set_option maxRecDepth 20000 in
theorem gX11_wishBy_1 : GoodIn vX11_wishBy (va_wsS RX11 70 yX11_cut vX11_cut) := goodIn_app (goodIn_r [.methodLink RX11 70 yX11_cut, .static yX11_cut, .initialized RX11] [8, 9, 10] (by decide +kernel) (by decide +kernel)) (goodIn_r (.code yX11_cut cX11_cut 1 (some .int) :: []) [11] (by decide +kernel) (by decide +kernel) : GoodIn vX11_wishBy (.code yX11_cut cX11_cut 1 (some .int) :: []))
set_option maxHeartbeats 2000000 in
set_option maxRecDepth 100000 in
theorem kX11_wishBy (l : Launch) (dC : Nat → ClassId) (dI : Nat → Nat → Nat) (a0 : Nat) (k1 : Int32) (k2 : Int32) (k3 : Int32) (k4 : Int32) (k5 : Int32) (a6 : Nat) (a7 : Nat) (a8 : Nat) (a9 : Nat) (g10 : Value) (g11 : Value) (g12 : Value) (g13 : Value) (g14 : Value) (g15 : Value) (g16 : Value) (g17 : Value) (g18 : Value) (g19 : Value) (g20 : Value) (g21 : Value) (g22 : Value) (g23 : Value) (g24 : Value) (g25 : Value) (g26 : Value) (g27 : Value) (g28 : Value) (g29 : Value) (cB30 : ClassId) (f31 : Nat → Int32) (cB32 : ClassId) (f33 : Nat → Int32) (cB34 : ClassId) (f35 : Nat → Int32) (cB36 : ClassId) (f37 : Nat → Int32) (hk2 : (0 ≤ k2.toInt ∧ k2.toInt ≤ 5)) (sz : Nat) : Met l yX11_wishBy vX11_wishBy ({ frames := 1, cells := 0, slots := 0, locals := 21 }) (PC (dC, dI) [.ref a0, .int k1, .int k2, .int k3, .int k4, .int k5] sz [(a0, .inr (8, [g10, g11, g12, g13, g14, g15, g16, g17, g18, g19, g20, .ref a6, .ref a7, .ref a8, g21, .ref a9, g22, g23, g24, g25, g26, g27, g28, g29])), (a6, .inl (cB30, 6, .inl f31)), (a7, .inl (cB32, 6, .inl f33)), (a8, .inl (cB34, 6, .inl f35)), (a9, .inl (cB36, 6, .inl f37))] [(cB30, .int), (cB32, .int), (cB34, .int), (cB36, .int)]) (va_Qi (S := Unit) (fun (r : Int32) _ => (0 ≤ r.toInt ∧ r.toInt ≤ 100)) (fun _ t => BC (dC, dI) (va_A [(a0, .inr (8, [g10, g11, g12, g13, g14, g15, g16, g17, g18, g19, g20, .ref a6, .ref a7, .ref a8, g21, .ref a9, g22, g23, g24, g25, g26, g27, g28, g29])), (a6, .inl (cB30, 6, .inl f31)), (a7, .inl (cB32, 6, .inl f33)), (a8, .inl (cB34, 6, .inl f35)), (a9, .inl (cB36, 6, .inl f37))] sz) [(a0, .inr (8, [g10, g11, g12, g13, g14, g15, g16, g17, g18, g19, g20, .ref a6, .ref a7, .ref a8, g21, .ref a9, g22, g23, g24, g25, g26, g27, g28, g29])), (a6, .inl (cB30, 6, .inl f31)), (a7, .inl (cB32, 6, .inl f33)), (a8, .inl (cB34, 6, .inl f35)), (a9, .inl (cB36, 6, .inl f37))] [] t) (va_A [(a0, .inr (8, [g10, g11, g12, g13, g14, g15, g16, g17, g18, g19, g20, .ref a6, .ref a7, .ref a8, g21, .ref a9, g22, g23, g24, g25, g26, g27, g28, g29])), (a6, .inl (cB30, 6, .inl f31)), (a7, .inl (cB32, 6, .inl f33)), (a8, .inl (cB34, 6, .inl f35)), (a9, .inl (cB36, 6, .inl f37))] sz)) 0 0 (va_A [(a0, .inr (8, [g10, g11, g12, g13, g14, g15, g16, g17, g18, g19, g20, .ref a6, .ref a7, .ref a8, g21, .ref a9, g22, g23, g24, g25, g26, g27, g28, g29])), (a6, .inl (cB30, 6, .inl f31)), (a7, .inl (cB32, 6, .inl f33)), (a8, .inl (cB34, 6, .inl f35)), (a9, .inl (cB36, 6, .inl f37))] sz) := by
  refine Met.ofW (cc := cX11_wishBy) (maxL := 7) (ret := (some .int)) (by decide) rfl ?_
  intro p e s m args below meth c s₁ B hml hv
  obtain ⟨rfl, hsz, hP, hK, hD0, hN⟩ := hv
  have hx := B.exec
  have hb := B.bytes
  have hr := B.returns
  have hts := atoms_spec (ws := vX11_wishBy) B.pre
  have hown : s.vm.findClass RX11 = some m.cls := findClass_of_methodNamed B.named
  have hlocks := B.notSynchronized
  subst hsz
  have hD := hD0.self (sz := s.heap.size)
  generalize hAe : va_A [(a0, .inr (8, [g10, g11, g12, g13, g14, g15, g16, g17, g18, g19, g20, .ref a6, .ref a7, .ref a8, g21, .ref a9, g22, g23, g24, g25, g26, g27, g28, g29])), (a6, .inl (cB30, 6, .inl f31)), (a7, .inl (cB32, 6, .inl f33)), (a8, .inl (cB34, 6, .inl f35)), (a9, .inl (cB36, 6, .inl f37))] s.heap.size = A at hD ⊢
  have hA : ∀ q : Nat, s.heap.size ≤ q → A q := fun q h => by rw [← hAe]; exact Or.inr h
  have hS : va_S A s.heap s.heap [] := va_S.rf
  have hP : va_P (dC, dI) vwCl [(a0, .inr (8, [g10, g11, g12, g13, g14, g15, g16, g17, g18, g19, g20, .ref a6, .ref a7, .ref a8, g21, .ref a9, g22, g23, g24, g25, g26, g27, g28, g29])), (a6, .inl (cB30, 6, .inl f31)), (a7, .inl (cB32, 6, .inl f33)), (a8, .inl (cB34, 6, .inl f35)), (a9, .inl (cB36, 6, .inl f37))] s.heap := hP
  have hl := lv_entry ([.ref a0, .int k1, .int k2, .int k3, .int k4, .int k5]) (n := 7) (Nat.le_of_ble_eq_true rfl)
  rw [lg_entry_eq]
  generalize (lg_sl ([.ref a0, .int k1, .int k2, .int k3, .int k4, .int k5]) ++ List.replicate (7 - (lg_sl ([.ref a0, .int k1, .int k2, .int k3, .int k4, .int k5])).length) Slot.unset).toArray = ls at hl ⊢
  have hl : lv_has ls 7 [(0, .ref a0), (1, .int k1), (2, .int k2), (3, .int k3), (4, .int k4), (5, .int k5)] := hl
  refine lv_iload_n hx hb dX11_wishBy_0 rfl (lv_at hl 1 rfl) ?_
  refine lv_aload_n hx hb dX11_wishBy_1 rfl (lv_at hl 0 rfl) ?_
  refine va_get (D := (dC, dI)) (ci := 8) (v := .ref a6) (C := RX11) (T := TX11) (N := 24) hx hb hts iX11_wishBy_X11 hown hK hP 0 rfl rfl 11 (by decide) (hts (.fieldLink RX11 19 "HookPierModel$Pier" "kind" "[I") (List.mem_of_getElem? (i := 1) rfl)) (fun _ h9 => h9) rfl dX11_wishBy_2 ?_
  refine lv_iload_n hx hb dX11_wishBy_5 rfl (lv_at hl 2 rfl) ?_
  refine va_iald hx hb hK hP 1 0 rfl rfl (vp_in_iff.mpr (by omega)) dX11_wishBy_6 ?_
  refine lv_topi (fun z1 ez1 => ?_)
  clear ez1
  refine lv_iconst (v := 3) hx hb dX11_wishBy_7 (by decide) ?_
  refine lv_icmp_ne (tgt := 16) hx hb dX11_wishBy_8 (by decide) (fun c2 => ?_) (fun c2 => ?_)
  · simp only [fa_lt, fa_le, fa_eq, ltv_0, ltv_3] at c2
    refine lv_aload_n hx hb dX11_wishBy_16 rfl (lv_at hl 0 rfl) ?_
    refine va_get (D := (dC, dI)) (ci := 8) (v := .ref a9) (C := RX11) (T := TX11) (N := 24) hx hb hts iX11_wishBy_X11 hown hK hP 0 rfl rfl 15 (by decide) (hts (.fieldLink RX11 31 "HookPierModel$Pier" "likes" "[I") (List.mem_of_getElem? (i := 2) rfl)) (fun _ h9 => h9) rfl dX11_wishBy_17 ?_
    refine lv_iload_n hx hb dX11_wishBy_20 rfl (lv_at hl 2 rfl) ?_
    refine va_iald hx hb hK hP 4 3 rfl rfl (vp_in_iff.mpr (by omega)) dX11_wishBy_21 ?_
    refine lv_topi (fun z3 ez3 => ?_)
    clear ez3
    refine lv_iload hx hb dX11_wishBy_22 (lv_at hl 5 rfl) ?_
    refine lv_icmp_ne (tgt := 32) hx hb dX11_wishBy_24 (by decide) (fun c4 => ?_) (fun c4 => ?_)
    · simp only [fa_lt, fa_le, fa_eq, ltv_0] at c4
      refine lv_iconst (v := 0) hx hb dX11_wishBy_32 (by decide) ?_
      refine lv_iadd hx hb dX11_wishBy_33 ?_
      refine lv_topi (fun z5 ez5 => ?_)
      clear ez5
      refine lv_bipush (v := 10) hx hb dX11_wishBy_34 (by decide) ?_
      refine lv_aload_n hx hb dX11_wishBy_36 rfl (lv_at hl 0 rfl) ?_
      refine va_get (D := (dC, dI)) (ci := 8) (v := .ref a7) (C := RX11) (T := TX11) (N := 24) hx hb hts iX11_wishBy_X11 hown hK hP 0 rfl rfl 12 (by decide) (hts (.fieldLink RX11 22 "HookPierModel$Pier" "spot" "[I") (List.mem_of_getElem? (i := 3) rfl)) (fun _ h9 => h9) rfl dX11_wishBy_37 ?_
      refine lv_iload_n hx hb dX11_wishBy_40 rfl (lv_at hl 2 rfl) ?_
      refine va_iald hx hb hK hP 2 1 rfl rfl (vp_in_iff.mpr (by omega)) dX11_wishBy_41 ?_
      refine lv_topi (fun z6 ez6 => ?_)
      clear ez6
      refine lv_iload_n hx hb dX11_wishBy_42 rfl (lv_at hl 3 rfl) ?_
      refine cl_i (wc := []) (wr := [(a0, .inr (8, [g10, g11, g12, g13, g14, g15, g16, g17, g18, g19, g20, .ref a6, .ref a7, .ref a8, g21, .ref a9, g22, g23, g24, g25, g26, g27, g28, g29])), (a6, .inl (cB30, 6, .inl f31)), (a7, .inl (cB32, 6, .inl f33)), (a8, .inl (cB34, 6, .inl f35)), (a9, .inl (cB36, 6, .inl f37))]) (va_runSN (As := [.int z6, .int k3]) (rest := [.int 10, .int z5]) ⟨hx, hb, hml, hown, hts⟩ (kX12_apart l dC dI z6 k3  s.heap.size) ⟨va_cnB 2 hts gX11_wishBy_0 rfl rfl rfl (hN.1 (.methodLinkNest RX11 66 yX12_apart "HookPierModel") (List.mem_of_getElem? (i := 21) rfl)) (hts (.initialized RX12) (List.mem_of_getElem? (i := 5) rfl)) (by decide +kernel) ⟨Nat.le_of_ble_eq_true rfl, Nat.le_of_ble_eq_true rfl⟩, (hts (.static yX12_apart) (List.mem_of_getElem? (i := 6) rfl)), trivial⟩ (PS (hP.sub (ws' := []) [] rfl) (hK.sub (tys' := []) [] rfl) (hD.sub (ws' := []) [] (by decide) rfl) hN) rfl rfl hl.1 rfl (lv_room (Nat.le_of_ble_eq_true rfl)) dX11_wishBy_43 ⟨Nat.le_of_ble_eq_true rfl, Nat.le_of_ble_eq_true rfl⟩) hP hD hK hS hA [] [0, 1, 2, 3, 4] rfl rfl (by decide) (by decide) (fun z7 _u H locs hw hP hD hK hS => ?_)
      have b8 := hw
      have hP : va_P (dC, dI) vwCl [(a0, .inr (8, [g10, g11, g12, g13, g14, g15, g16, g17, g18, g19, g20, .ref a6, .ref a7, .ref a8, g21, .ref a9, g22, g23, g24, g25, g26, g27, g28, g29])), (a6, .inl (cB30, 6, .inl f31)), (a7, .inl (cB32, 6, .inl f33)), (a8, .inl (cB34, 6, .inl f35)), (a9, .inl (cB36, 6, .inl f37))] H := hP
      have hD : va_D A [(a0, .inr (8, [g10, g11, g12, g13, g14, g15, g16, g17, g18, g19, g20, .ref a6, .ref a7, .ref a8, g21, .ref a9, g22, g23, g24, g25, g26, g27, g28, g29])), (a6, .inl (cB30, 6, .inl f31)), (a7, .inl (cB32, 6, .inl f33)), (a8, .inl (cB34, 6, .inl f35)), (a9, .inl (cB36, 6, .inl f37))] := hD
      have hK : va_K (dC, dI) vwCl [(cB30, .int), (cB32, .int), (cB34, .int), (cB36, .int)] s := hK
      refine lv_imul hx hb dX11_wishBy_46 ?_
      refine lv_topi (fun z9 ez9 => ?_)
      clear ez9
      refine lv_isub hx hb dX11_wishBy_47 ?_
      refine lv_topi (fun z10 ez10 => ?_)
      clear ez10
      refine lv_istore (lv' := [(6, .int z10), (0, .ref a0), (1, .int k1), (2, .int k2), (3, .int k3), (4, .int k4), (5, .int k5)]) hx hb dX11_wishBy_48 hl (by decide) rfl (fun ls hl => ?_)
      refine lv_aload_n hx hb dX11_wishBy_50 rfl (lv_at hl 1 rfl) ?_
      refine va_get (D := (dC, dI)) (ci := 8) (v := .ref a6) (C := RX11) (T := TX11) (N := 24) hx hb hts iX11_wishBy_X11 hown hK hP 0 rfl rfl 11 (by decide) (hts (.fieldLink RX11 19 "HookPierModel$Pier" "kind" "[I") (List.mem_of_getElem? (i := 1) rfl)) (fun _ h9 => h9) rfl dX11_wishBy_51 ?_
      refine lv_iload_n hx hb dX11_wishBy_54 rfl (lv_at hl 3 rfl) ?_
      refine va_iald hx hb hK hP 1 0 rfl rfl (vp_in_iff.mpr (by omega)) dX11_wishBy_55 ?_
      refine lv_topi (fun z11 ez11 => ?_)
      clear ez11
      refine lv_iconst (v := 2) hx hb dX11_wishBy_56 (by decide) ?_
      refine lv_icmp_ne (tgt := 65) hx hb dX11_wishBy_57 (by decide) (fun c12 => ?_) (fun c12 => ?_)
      · simp only [fa_lt, fa_le, fa_eq, ltv_0, ltv_2] at c12
        refine lv_iload hx hb dX11_wishBy_65 (lv_at hl 0 rfl) ?_
        refine lv_bipush (v := 8) hx hb dX11_wishBy_67 (by decide) ?_
        refine lv_aload_n hx hb dX11_wishBy_69 rfl (lv_at hl 1 rfl) ?_
        refine va_get (D := (dC, dI)) (ci := 8) (v := .ref a8) (C := RX11) (T := TX11) (N := 24) hx hb hts iX11_wishBy_X11 hown hK hP 0 rfl rfl 13 (by decide) (hts (.fieldLink RX11 25 "HookPierModel$Pier" "depth" "[I") (List.mem_of_getElem? (i := 7) rfl)) (fun _ h9 => h9) rfl dX11_wishBy_70 ?_
        refine lv_iload_n hx hb dX11_wishBy_73 rfl (lv_at hl 3 rfl) ?_
        refine va_iald hx hb hK hP 3 2 rfl rfl (vp_in_iff.mpr (by omega)) dX11_wishBy_74 ?_
        refine lv_topi (fun z13 ez13 => ?_)
        clear ez13
        refine lv_iload hx hb dX11_wishBy_75 (lv_at hl 5 rfl) ?_
        refine cl_i (wc := []) (wr := [(a0, .inr (8, [g10, g11, g12, g13, g14, g15, g16, g17, g18, g19, g20, .ref a6, .ref a7, .ref a8, g21, .ref a9, g22, g23, g24, g25, g26, g27, g28, g29])), (a6, .inl (cB30, 6, .inl f31)), (a7, .inl (cB32, 6, .inl f33)), (a8, .inl (cB34, 6, .inl f35)), (a9, .inl (cB36, 6, .inl f37))]) (va_runSN (As := [.int z13, .int k4]) (rest := [.int 8, .int z10]) ⟨hx, hb, hml, hown, hts⟩ (kX12_apart l dC dI z13 k4  H.size) ⟨va_cnB 2 hts gX11_wishBy_0 rfl rfl rfl (hN.1 (.methodLinkNest RX11 66 yX12_apart "HookPierModel") (List.mem_of_getElem? (i := 21) rfl)) (hts (.initialized RX12) (List.mem_of_getElem? (i := 5) rfl)) (by decide +kernel) ⟨Nat.le_of_ble_eq_true rfl, Nat.le_of_ble_eq_true rfl⟩, (hts (.static yX12_apart) (List.mem_of_getElem? (i := 6) rfl)), trivial⟩ (PS (hP.sub (ws' := []) [] rfl) (hK.sub (tys' := []) [] rfl) (hD.sub (ws' := []) [] (by decide) rfl) hN) rfl rfl hl.1 rfl (lv_room (Nat.le_of_ble_eq_true rfl)) dX11_wishBy_77 ⟨Nat.le_of_ble_eq_true rfl, Nat.le_of_ble_eq_true rfl⟩) hP hD hK hS hA [] [0, 1, 2, 3, 4] rfl rfl (by decide) (by decide) (fun z14 _u H locs hw hP hD hK hS => ?_)
        have b15 := hw
        have hP : va_P (dC, dI) vwCl [(a0, .inr (8, [g10, g11, g12, g13, g14, g15, g16, g17, g18, g19, g20, .ref a6, .ref a7, .ref a8, g21, .ref a9, g22, g23, g24, g25, g26, g27, g28, g29])), (a6, .inl (cB30, 6, .inl f31)), (a7, .inl (cB32, 6, .inl f33)), (a8, .inl (cB34, 6, .inl f35)), (a9, .inl (cB36, 6, .inl f37))] H := hP
        have hD : va_D A [(a0, .inr (8, [g10, g11, g12, g13, g14, g15, g16, g17, g18, g19, g20, .ref a6, .ref a7, .ref a8, g21, .ref a9, g22, g23, g24, g25, g26, g27, g28, g29])), (a6, .inl (cB30, 6, .inl f31)), (a7, .inl (cB32, 6, .inl f33)), (a8, .inl (cB34, 6, .inl f35)), (a9, .inl (cB36, 6, .inl f37))] := hD
        have hK : va_K (dC, dI) vwCl [(cB30, .int), (cB32, .int), (cB34, .int), (cB36, .int)] s := hK
        refine lv_imul hx hb dX11_wishBy_80 ?_
        refine lv_topi (fun z16 ez16 => ?_)
        clear ez16
        refine lv_isub hx hb dX11_wishBy_81 ?_
        refine lv_topi (fun z17 ez17 => ?_)
        clear ez17
        refine cl_i (wc := []) (wr := [(a0, .inr (8, [g10, g11, g12, g13, g14, g15, g16, g17, g18, g19, g20, .ref a6, .ref a7, .ref a8, g21, .ref a9, g22, g23, g24, g25, g26, g27, g28, g29])), (a6, .inl (cB30, 6, .inl f31)), (a7, .inl (cB32, 6, .inl f33)), (a8, .inl (cB34, 6, .inl f35)), (a9, .inl (cB36, 6, .inl f37))]) (va_runS (As := [.int z17]) (rest := []) ⟨hx, hb, hml, hown, hts⟩ (kX11_cut l dC dI z17  H.size) (va_cwS 1 hts gX11_wishBy_1 rfl rfl rfl (by decide +kernel) ⟨Nat.le_of_ble_eq_true rfl, Nat.le_of_ble_eq_true rfl⟩) (PS (hP.sub (ws' := []) [] rfl) (hK.sub (tys' := []) [] rfl) (hD.sub (ws' := []) [] (by decide) rfl) hN) rfl rfl hl.1 rfl (lv_room (Nat.le_of_ble_eq_true rfl)) dX11_wishBy_82 ⟨Nat.le_of_ble_eq_true rfl, Nat.le_of_ble_eq_true rfl⟩) hP hD hK hS hA [] [0, 1, 2, 3, 4] rfl rfl (by decide) (by decide) (fun z18 _u H locs hw hP hD hK hS => ?_)
        have b19 := hw
        have hP : va_P (dC, dI) vwCl [(a0, .inr (8, [g10, g11, g12, g13, g14, g15, g16, g17, g18, g19, g20, .ref a6, .ref a7, .ref a8, g21, .ref a9, g22, g23, g24, g25, g26, g27, g28, g29])), (a6, .inl (cB30, 6, .inl f31)), (a7, .inl (cB32, 6, .inl f33)), (a8, .inl (cB34, 6, .inl f35)), (a9, .inl (cB36, 6, .inl f37))] H := hP
        have hD : va_D A [(a0, .inr (8, [g10, g11, g12, g13, g14, g15, g16, g17, g18, g19, g20, .ref a6, .ref a7, .ref a8, g21, .ref a9, g22, g23, g24, g25, g26, g27, g28, g29])), (a6, .inl (cB30, 6, .inl f31)), (a7, .inl (cB32, 6, .inl f33)), (a8, .inl (cB34, 6, .inl f35)), (a9, .inl (cB36, 6, .inl f37))] := hD
        have hK : va_K (dC, dI) vwCl [(cB30, .int), (cB32, .int), (cB34, .int), (cB36, .int)] s := hK
        have hP9 := hP.sub (ws' := [(a0, .inr (8, [g10, g11, g12, g13, g14, g15, g16, g17, g18, g19, g20, .ref a6, .ref a7, .ref a8, g21, .ref a9, g22, g23, g24, g25, g26, g27, g28, g29])), (a6, .inl (cB30, 6, .inl f31)), (a7, .inl (cB32, 6, .inl f33)), (a8, .inl (cB34, 6, .inl f35)), (a9, .inl (cB36, 6, .inl f37))]) [0, 1, 2, 3, 4] rfl
        have hD9 := hD.sub (ws' := [(a0, .inr (8, [g10, g11, g12, g13, g14, g15, g16, g17, g18, g19, g20, .ref a6, .ref a7, .ref a8, g21, .ref a9, g22, g23, g24, g25, g26, g27, g28, g29])), (a6, .inl (cB30, 6, .inl f31)), (a7, .inl (cB32, 6, .inl f33)), (a8, .inl (cB34, 6, .inl f35)), (a9, .inl (cB36, 6, .inl f37))]) [0, 1, 2, 3, 4] (by decide) rfl
        have hK9 := hK.sub (tys' := []) [] rfl
        exact W.iret (v := z18) hx hb hr (fun t ht hW => ⟨⟨z18, (), rfl, (by first | trivial | omega | (simp only [ltv_0]; omega)), by rw [ht]; exact hP9, va_K.moved hW.alike hK9, hD9⟩, hS.F ht⟩) hS.2.2 dX11_wishBy_85
      · simp only [fa_lt, fa_le, fa_eq, ltv_0, ltv_2] at c12
        refine lv_iload hx hb dX11_wishBy_60 (lv_at hl 0 rfl) ?_
        refine lv_goto (tgt := 82) hx hb dX11_wishBy_62 (by decide) ?_
        refine cl_i (wc := []) (wr := [(a0, .inr (8, [g10, g11, g12, g13, g14, g15, g16, g17, g18, g19, g20, .ref a6, .ref a7, .ref a8, g21, .ref a9, g22, g23, g24, g25, g26, g27, g28, g29])), (a6, .inl (cB30, 6, .inl f31)), (a7, .inl (cB32, 6, .inl f33)), (a8, .inl (cB34, 6, .inl f35)), (a9, .inl (cB36, 6, .inl f37))]) (va_runS (As := [.int z10]) (rest := []) ⟨hx, hb, hml, hown, hts⟩ (kX11_cut l dC dI z10  H.size) (va_cwS 1 hts gX11_wishBy_1 rfl rfl rfl (by decide +kernel) ⟨Nat.le_of_ble_eq_true rfl, Nat.le_of_ble_eq_true rfl⟩) (PS (hP.sub (ws' := []) [] rfl) (hK.sub (tys' := []) [] rfl) (hD.sub (ws' := []) [] (by decide) rfl) hN) rfl rfl hl.1 rfl (lv_room (Nat.le_of_ble_eq_true rfl)) dX11_wishBy_82 ⟨Nat.le_of_ble_eq_true rfl, Nat.le_of_ble_eq_true rfl⟩) hP hD hK hS hA [] [0, 1, 2, 3, 4] rfl rfl (by decide) (by decide) (fun z20 _u H locs hw hP hD hK hS => ?_)
        have b21 := hw
        have hP : va_P (dC, dI) vwCl [(a0, .inr (8, [g10, g11, g12, g13, g14, g15, g16, g17, g18, g19, g20, .ref a6, .ref a7, .ref a8, g21, .ref a9, g22, g23, g24, g25, g26, g27, g28, g29])), (a6, .inl (cB30, 6, .inl f31)), (a7, .inl (cB32, 6, .inl f33)), (a8, .inl (cB34, 6, .inl f35)), (a9, .inl (cB36, 6, .inl f37))] H := hP
        have hD : va_D A [(a0, .inr (8, [g10, g11, g12, g13, g14, g15, g16, g17, g18, g19, g20, .ref a6, .ref a7, .ref a8, g21, .ref a9, g22, g23, g24, g25, g26, g27, g28, g29])), (a6, .inl (cB30, 6, .inl f31)), (a7, .inl (cB32, 6, .inl f33)), (a8, .inl (cB34, 6, .inl f35)), (a9, .inl (cB36, 6, .inl f37))] := hD
        have hK : va_K (dC, dI) vwCl [(cB30, .int), (cB32, .int), (cB34, .int), (cB36, .int)] s := hK
        have hP9 := hP.sub (ws' := [(a0, .inr (8, [g10, g11, g12, g13, g14, g15, g16, g17, g18, g19, g20, .ref a6, .ref a7, .ref a8, g21, .ref a9, g22, g23, g24, g25, g26, g27, g28, g29])), (a6, .inl (cB30, 6, .inl f31)), (a7, .inl (cB32, 6, .inl f33)), (a8, .inl (cB34, 6, .inl f35)), (a9, .inl (cB36, 6, .inl f37))]) [0, 1, 2, 3, 4] rfl
        have hD9 := hD.sub (ws' := [(a0, .inr (8, [g10, g11, g12, g13, g14, g15, g16, g17, g18, g19, g20, .ref a6, .ref a7, .ref a8, g21, .ref a9, g22, g23, g24, g25, g26, g27, g28, g29])), (a6, .inl (cB30, 6, .inl f31)), (a7, .inl (cB32, 6, .inl f33)), (a8, .inl (cB34, 6, .inl f35)), (a9, .inl (cB36, 6, .inl f37))]) [0, 1, 2, 3, 4] (by decide) rfl
        have hK9 := hK.sub (tys' := []) [] rfl
        exact W.iret (v := z20) hx hb hr (fun t ht hW => ⟨⟨z20, (), rfl, (by first | trivial | omega | (simp only [ltv_0]; omega)), by rw [ht]; exact hP9, va_K.moved hW.alike hK9, hD9⟩, hS.F ht⟩) hS.2.2 dX11_wishBy_85
    · simp only [fa_lt, fa_le, fa_eq, ltv_0] at c4
      refine lv_bipush (v := 20) hx hb dX11_wishBy_27 (by decide) ?_
      refine lv_goto (tgt := 33) hx hb dX11_wishBy_29 (by decide) ?_
      refine lv_iadd hx hb dX11_wishBy_33 ?_
      refine lv_topi (fun z22 ez22 => ?_)
      clear ez22
      refine lv_bipush (v := 10) hx hb dX11_wishBy_34 (by decide) ?_
      refine lv_aload_n hx hb dX11_wishBy_36 rfl (lv_at hl 0 rfl) ?_
      refine va_get (D := (dC, dI)) (ci := 8) (v := .ref a7) (C := RX11) (T := TX11) (N := 24) hx hb hts iX11_wishBy_X11 hown hK hP 0 rfl rfl 12 (by decide) (hts (.fieldLink RX11 22 "HookPierModel$Pier" "spot" "[I") (List.mem_of_getElem? (i := 3) rfl)) (fun _ h9 => h9) rfl dX11_wishBy_37 ?_
      refine lv_iload_n hx hb dX11_wishBy_40 rfl (lv_at hl 2 rfl) ?_
      refine va_iald hx hb hK hP 2 1 rfl rfl (vp_in_iff.mpr (by omega)) dX11_wishBy_41 ?_
      refine lv_topi (fun z23 ez23 => ?_)
      clear ez23
      refine lv_iload_n hx hb dX11_wishBy_42 rfl (lv_at hl 3 rfl) ?_
      refine cl_i (wc := []) (wr := [(a0, .inr (8, [g10, g11, g12, g13, g14, g15, g16, g17, g18, g19, g20, .ref a6, .ref a7, .ref a8, g21, .ref a9, g22, g23, g24, g25, g26, g27, g28, g29])), (a6, .inl (cB30, 6, .inl f31)), (a7, .inl (cB32, 6, .inl f33)), (a8, .inl (cB34, 6, .inl f35)), (a9, .inl (cB36, 6, .inl f37))]) (va_runSN (As := [.int z23, .int k3]) (rest := [.int 10, .int z22]) ⟨hx, hb, hml, hown, hts⟩ (kX12_apart l dC dI z23 k3  s.heap.size) ⟨va_cnB 2 hts gX11_wishBy_0 rfl rfl rfl (hN.1 (.methodLinkNest RX11 66 yX12_apart "HookPierModel") (List.mem_of_getElem? (i := 21) rfl)) (hts (.initialized RX12) (List.mem_of_getElem? (i := 5) rfl)) (by decide +kernel) ⟨Nat.le_of_ble_eq_true rfl, Nat.le_of_ble_eq_true rfl⟩, (hts (.static yX12_apart) (List.mem_of_getElem? (i := 6) rfl)), trivial⟩ (PS (hP.sub (ws' := []) [] rfl) (hK.sub (tys' := []) [] rfl) (hD.sub (ws' := []) [] (by decide) rfl) hN) rfl rfl hl.1 rfl (lv_room (Nat.le_of_ble_eq_true rfl)) dX11_wishBy_43 ⟨Nat.le_of_ble_eq_true rfl, Nat.le_of_ble_eq_true rfl⟩) hP hD hK hS hA [] [0, 1, 2, 3, 4] rfl rfl (by decide) (by decide) (fun z24 _u H locs hw hP hD hK hS => ?_)
      have b25 := hw
      have hP : va_P (dC, dI) vwCl [(a0, .inr (8, [g10, g11, g12, g13, g14, g15, g16, g17, g18, g19, g20, .ref a6, .ref a7, .ref a8, g21, .ref a9, g22, g23, g24, g25, g26, g27, g28, g29])), (a6, .inl (cB30, 6, .inl f31)), (a7, .inl (cB32, 6, .inl f33)), (a8, .inl (cB34, 6, .inl f35)), (a9, .inl (cB36, 6, .inl f37))] H := hP
      have hD : va_D A [(a0, .inr (8, [g10, g11, g12, g13, g14, g15, g16, g17, g18, g19, g20, .ref a6, .ref a7, .ref a8, g21, .ref a9, g22, g23, g24, g25, g26, g27, g28, g29])), (a6, .inl (cB30, 6, .inl f31)), (a7, .inl (cB32, 6, .inl f33)), (a8, .inl (cB34, 6, .inl f35)), (a9, .inl (cB36, 6, .inl f37))] := hD
      have hK : va_K (dC, dI) vwCl [(cB30, .int), (cB32, .int), (cB34, .int), (cB36, .int)] s := hK
      refine lv_imul hx hb dX11_wishBy_46 ?_
      refine lv_topi (fun z26 ez26 => ?_)
      clear ez26
      refine lv_isub hx hb dX11_wishBy_47 ?_
      refine lv_topi (fun z27 ez27 => ?_)
      clear ez27
      refine lv_istore (lv' := [(6, .int z27), (0, .ref a0), (1, .int k1), (2, .int k2), (3, .int k3), (4, .int k4), (5, .int k5)]) hx hb dX11_wishBy_48 hl (by decide) rfl (fun ls hl => ?_)
      refine lv_aload_n hx hb dX11_wishBy_50 rfl (lv_at hl 1 rfl) ?_
      refine va_get (D := (dC, dI)) (ci := 8) (v := .ref a6) (C := RX11) (T := TX11) (N := 24) hx hb hts iX11_wishBy_X11 hown hK hP 0 rfl rfl 11 (by decide) (hts (.fieldLink RX11 19 "HookPierModel$Pier" "kind" "[I") (List.mem_of_getElem? (i := 1) rfl)) (fun _ h9 => h9) rfl dX11_wishBy_51 ?_
      refine lv_iload_n hx hb dX11_wishBy_54 rfl (lv_at hl 3 rfl) ?_
      refine va_iald hx hb hK hP 1 0 rfl rfl (vp_in_iff.mpr (by omega)) dX11_wishBy_55 ?_
      refine lv_topi (fun z28 ez28 => ?_)
      clear ez28
      refine lv_iconst (v := 2) hx hb dX11_wishBy_56 (by decide) ?_
      refine lv_icmp_ne (tgt := 65) hx hb dX11_wishBy_57 (by decide) (fun c29 => ?_) (fun c29 => ?_)
      · simp only [fa_lt, fa_le, fa_eq, ltv_0, ltv_2] at c29
        refine lv_iload hx hb dX11_wishBy_65 (lv_at hl 0 rfl) ?_
        refine lv_bipush (v := 8) hx hb dX11_wishBy_67 (by decide) ?_
        refine lv_aload_n hx hb dX11_wishBy_69 rfl (lv_at hl 1 rfl) ?_
        refine va_get (D := (dC, dI)) (ci := 8) (v := .ref a8) (C := RX11) (T := TX11) (N := 24) hx hb hts iX11_wishBy_X11 hown hK hP 0 rfl rfl 13 (by decide) (hts (.fieldLink RX11 25 "HookPierModel$Pier" "depth" "[I") (List.mem_of_getElem? (i := 7) rfl)) (fun _ h9 => h9) rfl dX11_wishBy_70 ?_
        refine lv_iload_n hx hb dX11_wishBy_73 rfl (lv_at hl 3 rfl) ?_
        refine va_iald hx hb hK hP 3 2 rfl rfl (vp_in_iff.mpr (by omega)) dX11_wishBy_74 ?_
        refine lv_topi (fun z30 ez30 => ?_)
        clear ez30
        refine lv_iload hx hb dX11_wishBy_75 (lv_at hl 5 rfl) ?_
        refine cl_i (wc := []) (wr := [(a0, .inr (8, [g10, g11, g12, g13, g14, g15, g16, g17, g18, g19, g20, .ref a6, .ref a7, .ref a8, g21, .ref a9, g22, g23, g24, g25, g26, g27, g28, g29])), (a6, .inl (cB30, 6, .inl f31)), (a7, .inl (cB32, 6, .inl f33)), (a8, .inl (cB34, 6, .inl f35)), (a9, .inl (cB36, 6, .inl f37))]) (va_runSN (As := [.int z30, .int k4]) (rest := [.int 8, .int z27]) ⟨hx, hb, hml, hown, hts⟩ (kX12_apart l dC dI z30 k4  H.size) ⟨va_cnB 2 hts gX11_wishBy_0 rfl rfl rfl (hN.1 (.methodLinkNest RX11 66 yX12_apart "HookPierModel") (List.mem_of_getElem? (i := 21) rfl)) (hts (.initialized RX12) (List.mem_of_getElem? (i := 5) rfl)) (by decide +kernel) ⟨Nat.le_of_ble_eq_true rfl, Nat.le_of_ble_eq_true rfl⟩, (hts (.static yX12_apart) (List.mem_of_getElem? (i := 6) rfl)), trivial⟩ (PS (hP.sub (ws' := []) [] rfl) (hK.sub (tys' := []) [] rfl) (hD.sub (ws' := []) [] (by decide) rfl) hN) rfl rfl hl.1 rfl (lv_room (Nat.le_of_ble_eq_true rfl)) dX11_wishBy_77 ⟨Nat.le_of_ble_eq_true rfl, Nat.le_of_ble_eq_true rfl⟩) hP hD hK hS hA [] [0, 1, 2, 3, 4] rfl rfl (by decide) (by decide) (fun z31 _u H locs hw hP hD hK hS => ?_)
        have b32 := hw
        have hP : va_P (dC, dI) vwCl [(a0, .inr (8, [g10, g11, g12, g13, g14, g15, g16, g17, g18, g19, g20, .ref a6, .ref a7, .ref a8, g21, .ref a9, g22, g23, g24, g25, g26, g27, g28, g29])), (a6, .inl (cB30, 6, .inl f31)), (a7, .inl (cB32, 6, .inl f33)), (a8, .inl (cB34, 6, .inl f35)), (a9, .inl (cB36, 6, .inl f37))] H := hP
        have hD : va_D A [(a0, .inr (8, [g10, g11, g12, g13, g14, g15, g16, g17, g18, g19, g20, .ref a6, .ref a7, .ref a8, g21, .ref a9, g22, g23, g24, g25, g26, g27, g28, g29])), (a6, .inl (cB30, 6, .inl f31)), (a7, .inl (cB32, 6, .inl f33)), (a8, .inl (cB34, 6, .inl f35)), (a9, .inl (cB36, 6, .inl f37))] := hD
        have hK : va_K (dC, dI) vwCl [(cB30, .int), (cB32, .int), (cB34, .int), (cB36, .int)] s := hK
        refine lv_imul hx hb dX11_wishBy_80 ?_
        refine lv_topi (fun z33 ez33 => ?_)
        clear ez33
        refine lv_isub hx hb dX11_wishBy_81 ?_
        refine lv_topi (fun z34 ez34 => ?_)
        clear ez34
        refine cl_i (wc := []) (wr := [(a0, .inr (8, [g10, g11, g12, g13, g14, g15, g16, g17, g18, g19, g20, .ref a6, .ref a7, .ref a8, g21, .ref a9, g22, g23, g24, g25, g26, g27, g28, g29])), (a6, .inl (cB30, 6, .inl f31)), (a7, .inl (cB32, 6, .inl f33)), (a8, .inl (cB34, 6, .inl f35)), (a9, .inl (cB36, 6, .inl f37))]) (va_runS (As := [.int z34]) (rest := []) ⟨hx, hb, hml, hown, hts⟩ (kX11_cut l dC dI z34  H.size) (va_cwS 1 hts gX11_wishBy_1 rfl rfl rfl (by decide +kernel) ⟨Nat.le_of_ble_eq_true rfl, Nat.le_of_ble_eq_true rfl⟩) (PS (hP.sub (ws' := []) [] rfl) (hK.sub (tys' := []) [] rfl) (hD.sub (ws' := []) [] (by decide) rfl) hN) rfl rfl hl.1 rfl (lv_room (Nat.le_of_ble_eq_true rfl)) dX11_wishBy_82 ⟨Nat.le_of_ble_eq_true rfl, Nat.le_of_ble_eq_true rfl⟩) hP hD hK hS hA [] [0, 1, 2, 3, 4] rfl rfl (by decide) (by decide) (fun z35 _u H locs hw hP hD hK hS => ?_)
        have b36 := hw
        have hP : va_P (dC, dI) vwCl [(a0, .inr (8, [g10, g11, g12, g13, g14, g15, g16, g17, g18, g19, g20, .ref a6, .ref a7, .ref a8, g21, .ref a9, g22, g23, g24, g25, g26, g27, g28, g29])), (a6, .inl (cB30, 6, .inl f31)), (a7, .inl (cB32, 6, .inl f33)), (a8, .inl (cB34, 6, .inl f35)), (a9, .inl (cB36, 6, .inl f37))] H := hP
        have hD : va_D A [(a0, .inr (8, [g10, g11, g12, g13, g14, g15, g16, g17, g18, g19, g20, .ref a6, .ref a7, .ref a8, g21, .ref a9, g22, g23, g24, g25, g26, g27, g28, g29])), (a6, .inl (cB30, 6, .inl f31)), (a7, .inl (cB32, 6, .inl f33)), (a8, .inl (cB34, 6, .inl f35)), (a9, .inl (cB36, 6, .inl f37))] := hD
        have hK : va_K (dC, dI) vwCl [(cB30, .int), (cB32, .int), (cB34, .int), (cB36, .int)] s := hK
        have hP9 := hP.sub (ws' := [(a0, .inr (8, [g10, g11, g12, g13, g14, g15, g16, g17, g18, g19, g20, .ref a6, .ref a7, .ref a8, g21, .ref a9, g22, g23, g24, g25, g26, g27, g28, g29])), (a6, .inl (cB30, 6, .inl f31)), (a7, .inl (cB32, 6, .inl f33)), (a8, .inl (cB34, 6, .inl f35)), (a9, .inl (cB36, 6, .inl f37))]) [0, 1, 2, 3, 4] rfl
        have hD9 := hD.sub (ws' := [(a0, .inr (8, [g10, g11, g12, g13, g14, g15, g16, g17, g18, g19, g20, .ref a6, .ref a7, .ref a8, g21, .ref a9, g22, g23, g24, g25, g26, g27, g28, g29])), (a6, .inl (cB30, 6, .inl f31)), (a7, .inl (cB32, 6, .inl f33)), (a8, .inl (cB34, 6, .inl f35)), (a9, .inl (cB36, 6, .inl f37))]) [0, 1, 2, 3, 4] (by decide) rfl
        have hK9 := hK.sub (tys' := []) [] rfl
        exact W.iret (v := z35) hx hb hr (fun t ht hW => ⟨⟨z35, (), rfl, (by first | trivial | omega | (simp only [ltv_0]; omega)), by rw [ht]; exact hP9, va_K.moved hW.alike hK9, hD9⟩, hS.F ht⟩) hS.2.2 dX11_wishBy_85
      · simp only [fa_lt, fa_le, fa_eq, ltv_0, ltv_2] at c29
        refine lv_iload hx hb dX11_wishBy_60 (lv_at hl 0 rfl) ?_
        refine lv_goto (tgt := 82) hx hb dX11_wishBy_62 (by decide) ?_
        refine cl_i (wc := []) (wr := [(a0, .inr (8, [g10, g11, g12, g13, g14, g15, g16, g17, g18, g19, g20, .ref a6, .ref a7, .ref a8, g21, .ref a9, g22, g23, g24, g25, g26, g27, g28, g29])), (a6, .inl (cB30, 6, .inl f31)), (a7, .inl (cB32, 6, .inl f33)), (a8, .inl (cB34, 6, .inl f35)), (a9, .inl (cB36, 6, .inl f37))]) (va_runS (As := [.int z27]) (rest := []) ⟨hx, hb, hml, hown, hts⟩ (kX11_cut l dC dI z27  H.size) (va_cwS 1 hts gX11_wishBy_1 rfl rfl rfl (by decide +kernel) ⟨Nat.le_of_ble_eq_true rfl, Nat.le_of_ble_eq_true rfl⟩) (PS (hP.sub (ws' := []) [] rfl) (hK.sub (tys' := []) [] rfl) (hD.sub (ws' := []) [] (by decide) rfl) hN) rfl rfl hl.1 rfl (lv_room (Nat.le_of_ble_eq_true rfl)) dX11_wishBy_82 ⟨Nat.le_of_ble_eq_true rfl, Nat.le_of_ble_eq_true rfl⟩) hP hD hK hS hA [] [0, 1, 2, 3, 4] rfl rfl (by decide) (by decide) (fun z37 _u H locs hw hP hD hK hS => ?_)
        have b38 := hw
        have hP : va_P (dC, dI) vwCl [(a0, .inr (8, [g10, g11, g12, g13, g14, g15, g16, g17, g18, g19, g20, .ref a6, .ref a7, .ref a8, g21, .ref a9, g22, g23, g24, g25, g26, g27, g28, g29])), (a6, .inl (cB30, 6, .inl f31)), (a7, .inl (cB32, 6, .inl f33)), (a8, .inl (cB34, 6, .inl f35)), (a9, .inl (cB36, 6, .inl f37))] H := hP
        have hD : va_D A [(a0, .inr (8, [g10, g11, g12, g13, g14, g15, g16, g17, g18, g19, g20, .ref a6, .ref a7, .ref a8, g21, .ref a9, g22, g23, g24, g25, g26, g27, g28, g29])), (a6, .inl (cB30, 6, .inl f31)), (a7, .inl (cB32, 6, .inl f33)), (a8, .inl (cB34, 6, .inl f35)), (a9, .inl (cB36, 6, .inl f37))] := hD
        have hK : va_K (dC, dI) vwCl [(cB30, .int), (cB32, .int), (cB34, .int), (cB36, .int)] s := hK
        have hP9 := hP.sub (ws' := [(a0, .inr (8, [g10, g11, g12, g13, g14, g15, g16, g17, g18, g19, g20, .ref a6, .ref a7, .ref a8, g21, .ref a9, g22, g23, g24, g25, g26, g27, g28, g29])), (a6, .inl (cB30, 6, .inl f31)), (a7, .inl (cB32, 6, .inl f33)), (a8, .inl (cB34, 6, .inl f35)), (a9, .inl (cB36, 6, .inl f37))]) [0, 1, 2, 3, 4] rfl
        have hD9 := hD.sub (ws' := [(a0, .inr (8, [g10, g11, g12, g13, g14, g15, g16, g17, g18, g19, g20, .ref a6, .ref a7, .ref a8, g21, .ref a9, g22, g23, g24, g25, g26, g27, g28, g29])), (a6, .inl (cB30, 6, .inl f31)), (a7, .inl (cB32, 6, .inl f33)), (a8, .inl (cB34, 6, .inl f35)), (a9, .inl (cB36, 6, .inl f37))]) [0, 1, 2, 3, 4] (by decide) rfl
        have hK9 := hK.sub (tys' := []) [] rfl
        exact W.iret (v := z37) hx hb hr (fun t ht hW => ⟨⟨z37, (), rfl, (by first | trivial | omega | (simp only [ltv_0]; omega)), by rw [ht]; exact hP9, va_K.moved hW.alike hK9, hD9⟩, hS.F ht⟩) hS.2.2 dX11_wishBy_85
  · simp only [fa_lt, fa_le, fa_eq, ltv_0, ltv_3] at c2
    refine lv_bipush (v := (-20)) hx hb dX11_wishBy_11 (by decide) ?_
    refine lv_goto (tgt := 33) hx hb dX11_wishBy_13 (by decide) ?_
    refine lv_iadd hx hb dX11_wishBy_33 ?_
    refine lv_topi (fun z39 ez39 => ?_)
    clear ez39
    refine lv_bipush (v := 10) hx hb dX11_wishBy_34 (by decide) ?_
    refine lv_aload_n hx hb dX11_wishBy_36 rfl (lv_at hl 0 rfl) ?_
    refine va_get (D := (dC, dI)) (ci := 8) (v := .ref a7) (C := RX11) (T := TX11) (N := 24) hx hb hts iX11_wishBy_X11 hown hK hP 0 rfl rfl 12 (by decide) (hts (.fieldLink RX11 22 "HookPierModel$Pier" "spot" "[I") (List.mem_of_getElem? (i := 3) rfl)) (fun _ h9 => h9) rfl dX11_wishBy_37 ?_
    refine lv_iload_n hx hb dX11_wishBy_40 rfl (lv_at hl 2 rfl) ?_
    refine va_iald hx hb hK hP 2 1 rfl rfl (vp_in_iff.mpr (by omega)) dX11_wishBy_41 ?_
    refine lv_topi (fun z40 ez40 => ?_)
    clear ez40
    refine lv_iload_n hx hb dX11_wishBy_42 rfl (lv_at hl 3 rfl) ?_
    refine cl_i (wc := []) (wr := [(a0, .inr (8, [g10, g11, g12, g13, g14, g15, g16, g17, g18, g19, g20, .ref a6, .ref a7, .ref a8, g21, .ref a9, g22, g23, g24, g25, g26, g27, g28, g29])), (a6, .inl (cB30, 6, .inl f31)), (a7, .inl (cB32, 6, .inl f33)), (a8, .inl (cB34, 6, .inl f35)), (a9, .inl (cB36, 6, .inl f37))]) (va_runSN (As := [.int z40, .int k3]) (rest := [.int 10, .int z39]) ⟨hx, hb, hml, hown, hts⟩ (kX12_apart l dC dI z40 k3  s.heap.size) ⟨va_cnB 2 hts gX11_wishBy_0 rfl rfl rfl (hN.1 (.methodLinkNest RX11 66 yX12_apart "HookPierModel") (List.mem_of_getElem? (i := 21) rfl)) (hts (.initialized RX12) (List.mem_of_getElem? (i := 5) rfl)) (by decide +kernel) ⟨Nat.le_of_ble_eq_true rfl, Nat.le_of_ble_eq_true rfl⟩, (hts (.static yX12_apart) (List.mem_of_getElem? (i := 6) rfl)), trivial⟩ (PS (hP.sub (ws' := []) [] rfl) (hK.sub (tys' := []) [] rfl) (hD.sub (ws' := []) [] (by decide) rfl) hN) rfl rfl hl.1 rfl (lv_room (Nat.le_of_ble_eq_true rfl)) dX11_wishBy_43 ⟨Nat.le_of_ble_eq_true rfl, Nat.le_of_ble_eq_true rfl⟩) hP hD hK hS hA [] [0, 1, 2, 3, 4] rfl rfl (by decide) (by decide) (fun z41 _u H locs hw hP hD hK hS => ?_)
    have b42 := hw
    have hP : va_P (dC, dI) vwCl [(a0, .inr (8, [g10, g11, g12, g13, g14, g15, g16, g17, g18, g19, g20, .ref a6, .ref a7, .ref a8, g21, .ref a9, g22, g23, g24, g25, g26, g27, g28, g29])), (a6, .inl (cB30, 6, .inl f31)), (a7, .inl (cB32, 6, .inl f33)), (a8, .inl (cB34, 6, .inl f35)), (a9, .inl (cB36, 6, .inl f37))] H := hP
    have hD : va_D A [(a0, .inr (8, [g10, g11, g12, g13, g14, g15, g16, g17, g18, g19, g20, .ref a6, .ref a7, .ref a8, g21, .ref a9, g22, g23, g24, g25, g26, g27, g28, g29])), (a6, .inl (cB30, 6, .inl f31)), (a7, .inl (cB32, 6, .inl f33)), (a8, .inl (cB34, 6, .inl f35)), (a9, .inl (cB36, 6, .inl f37))] := hD
    have hK : va_K (dC, dI) vwCl [(cB30, .int), (cB32, .int), (cB34, .int), (cB36, .int)] s := hK
    refine lv_imul hx hb dX11_wishBy_46 ?_
    refine lv_topi (fun z43 ez43 => ?_)
    clear ez43
    refine lv_isub hx hb dX11_wishBy_47 ?_
    refine lv_topi (fun z44 ez44 => ?_)
    clear ez44
    refine lv_istore (lv' := [(6, .int z44), (0, .ref a0), (1, .int k1), (2, .int k2), (3, .int k3), (4, .int k4), (5, .int k5)]) hx hb dX11_wishBy_48 hl (by decide) rfl (fun ls hl => ?_)
    refine lv_aload_n hx hb dX11_wishBy_50 rfl (lv_at hl 1 rfl) ?_
    refine va_get (D := (dC, dI)) (ci := 8) (v := .ref a6) (C := RX11) (T := TX11) (N := 24) hx hb hts iX11_wishBy_X11 hown hK hP 0 rfl rfl 11 (by decide) (hts (.fieldLink RX11 19 "HookPierModel$Pier" "kind" "[I") (List.mem_of_getElem? (i := 1) rfl)) (fun _ h9 => h9) rfl dX11_wishBy_51 ?_
    refine lv_iload_n hx hb dX11_wishBy_54 rfl (lv_at hl 3 rfl) ?_
    refine va_iald hx hb hK hP 1 0 rfl rfl (vp_in_iff.mpr (by omega)) dX11_wishBy_55 ?_
    refine lv_topi (fun z45 ez45 => ?_)
    clear ez45
    refine lv_iconst (v := 2) hx hb dX11_wishBy_56 (by decide) ?_
    refine lv_icmp_ne (tgt := 65) hx hb dX11_wishBy_57 (by decide) (fun c46 => ?_) (fun c46 => ?_)
    · simp only [fa_lt, fa_le, fa_eq, ltv_0, ltv_2] at c46
      refine lv_iload hx hb dX11_wishBy_65 (lv_at hl 0 rfl) ?_
      refine lv_bipush (v := 8) hx hb dX11_wishBy_67 (by decide) ?_
      refine lv_aload_n hx hb dX11_wishBy_69 rfl (lv_at hl 1 rfl) ?_
      refine va_get (D := (dC, dI)) (ci := 8) (v := .ref a8) (C := RX11) (T := TX11) (N := 24) hx hb hts iX11_wishBy_X11 hown hK hP 0 rfl rfl 13 (by decide) (hts (.fieldLink RX11 25 "HookPierModel$Pier" "depth" "[I") (List.mem_of_getElem? (i := 7) rfl)) (fun _ h9 => h9) rfl dX11_wishBy_70 ?_
      refine lv_iload_n hx hb dX11_wishBy_73 rfl (lv_at hl 3 rfl) ?_
      refine va_iald hx hb hK hP 3 2 rfl rfl (vp_in_iff.mpr (by omega)) dX11_wishBy_74 ?_
      refine lv_topi (fun z47 ez47 => ?_)
      clear ez47
      refine lv_iload hx hb dX11_wishBy_75 (lv_at hl 5 rfl) ?_
      refine cl_i (wc := []) (wr := [(a0, .inr (8, [g10, g11, g12, g13, g14, g15, g16, g17, g18, g19, g20, .ref a6, .ref a7, .ref a8, g21, .ref a9, g22, g23, g24, g25, g26, g27, g28, g29])), (a6, .inl (cB30, 6, .inl f31)), (a7, .inl (cB32, 6, .inl f33)), (a8, .inl (cB34, 6, .inl f35)), (a9, .inl (cB36, 6, .inl f37))]) (va_runSN (As := [.int z47, .int k4]) (rest := [.int 8, .int z44]) ⟨hx, hb, hml, hown, hts⟩ (kX12_apart l dC dI z47 k4  H.size) ⟨va_cnB 2 hts gX11_wishBy_0 rfl rfl rfl (hN.1 (.methodLinkNest RX11 66 yX12_apart "HookPierModel") (List.mem_of_getElem? (i := 21) rfl)) (hts (.initialized RX12) (List.mem_of_getElem? (i := 5) rfl)) (by decide +kernel) ⟨Nat.le_of_ble_eq_true rfl, Nat.le_of_ble_eq_true rfl⟩, (hts (.static yX12_apart) (List.mem_of_getElem? (i := 6) rfl)), trivial⟩ (PS (hP.sub (ws' := []) [] rfl) (hK.sub (tys' := []) [] rfl) (hD.sub (ws' := []) [] (by decide) rfl) hN) rfl rfl hl.1 rfl (lv_room (Nat.le_of_ble_eq_true rfl)) dX11_wishBy_77 ⟨Nat.le_of_ble_eq_true rfl, Nat.le_of_ble_eq_true rfl⟩) hP hD hK hS hA [] [0, 1, 2, 3, 4] rfl rfl (by decide) (by decide) (fun z48 _u H locs hw hP hD hK hS => ?_)
      have b49 := hw
      have hP : va_P (dC, dI) vwCl [(a0, .inr (8, [g10, g11, g12, g13, g14, g15, g16, g17, g18, g19, g20, .ref a6, .ref a7, .ref a8, g21, .ref a9, g22, g23, g24, g25, g26, g27, g28, g29])), (a6, .inl (cB30, 6, .inl f31)), (a7, .inl (cB32, 6, .inl f33)), (a8, .inl (cB34, 6, .inl f35)), (a9, .inl (cB36, 6, .inl f37))] H := hP
      have hD : va_D A [(a0, .inr (8, [g10, g11, g12, g13, g14, g15, g16, g17, g18, g19, g20, .ref a6, .ref a7, .ref a8, g21, .ref a9, g22, g23, g24, g25, g26, g27, g28, g29])), (a6, .inl (cB30, 6, .inl f31)), (a7, .inl (cB32, 6, .inl f33)), (a8, .inl (cB34, 6, .inl f35)), (a9, .inl (cB36, 6, .inl f37))] := hD
      have hK : va_K (dC, dI) vwCl [(cB30, .int), (cB32, .int), (cB34, .int), (cB36, .int)] s := hK
      refine lv_imul hx hb dX11_wishBy_80 ?_
      refine lv_topi (fun z50 ez50 => ?_)
      clear ez50
      refine lv_isub hx hb dX11_wishBy_81 ?_
      refine lv_topi (fun z51 ez51 => ?_)
      clear ez51
      refine cl_i (wc := []) (wr := [(a0, .inr (8, [g10, g11, g12, g13, g14, g15, g16, g17, g18, g19, g20, .ref a6, .ref a7, .ref a8, g21, .ref a9, g22, g23, g24, g25, g26, g27, g28, g29])), (a6, .inl (cB30, 6, .inl f31)), (a7, .inl (cB32, 6, .inl f33)), (a8, .inl (cB34, 6, .inl f35)), (a9, .inl (cB36, 6, .inl f37))]) (va_runS (As := [.int z51]) (rest := []) ⟨hx, hb, hml, hown, hts⟩ (kX11_cut l dC dI z51  H.size) (va_cwS 1 hts gX11_wishBy_1 rfl rfl rfl (by decide +kernel) ⟨Nat.le_of_ble_eq_true rfl, Nat.le_of_ble_eq_true rfl⟩) (PS (hP.sub (ws' := []) [] rfl) (hK.sub (tys' := []) [] rfl) (hD.sub (ws' := []) [] (by decide) rfl) hN) rfl rfl hl.1 rfl (lv_room (Nat.le_of_ble_eq_true rfl)) dX11_wishBy_82 ⟨Nat.le_of_ble_eq_true rfl, Nat.le_of_ble_eq_true rfl⟩) hP hD hK hS hA [] [0, 1, 2, 3, 4] rfl rfl (by decide) (by decide) (fun z52 _u H locs hw hP hD hK hS => ?_)
      have b53 := hw
      have hP : va_P (dC, dI) vwCl [(a0, .inr (8, [g10, g11, g12, g13, g14, g15, g16, g17, g18, g19, g20, .ref a6, .ref a7, .ref a8, g21, .ref a9, g22, g23, g24, g25, g26, g27, g28, g29])), (a6, .inl (cB30, 6, .inl f31)), (a7, .inl (cB32, 6, .inl f33)), (a8, .inl (cB34, 6, .inl f35)), (a9, .inl (cB36, 6, .inl f37))] H := hP
      have hD : va_D A [(a0, .inr (8, [g10, g11, g12, g13, g14, g15, g16, g17, g18, g19, g20, .ref a6, .ref a7, .ref a8, g21, .ref a9, g22, g23, g24, g25, g26, g27, g28, g29])), (a6, .inl (cB30, 6, .inl f31)), (a7, .inl (cB32, 6, .inl f33)), (a8, .inl (cB34, 6, .inl f35)), (a9, .inl (cB36, 6, .inl f37))] := hD
      have hK : va_K (dC, dI) vwCl [(cB30, .int), (cB32, .int), (cB34, .int), (cB36, .int)] s := hK
      have hP9 := hP.sub (ws' := [(a0, .inr (8, [g10, g11, g12, g13, g14, g15, g16, g17, g18, g19, g20, .ref a6, .ref a7, .ref a8, g21, .ref a9, g22, g23, g24, g25, g26, g27, g28, g29])), (a6, .inl (cB30, 6, .inl f31)), (a7, .inl (cB32, 6, .inl f33)), (a8, .inl (cB34, 6, .inl f35)), (a9, .inl (cB36, 6, .inl f37))]) [0, 1, 2, 3, 4] rfl
      have hD9 := hD.sub (ws' := [(a0, .inr (8, [g10, g11, g12, g13, g14, g15, g16, g17, g18, g19, g20, .ref a6, .ref a7, .ref a8, g21, .ref a9, g22, g23, g24, g25, g26, g27, g28, g29])), (a6, .inl (cB30, 6, .inl f31)), (a7, .inl (cB32, 6, .inl f33)), (a8, .inl (cB34, 6, .inl f35)), (a9, .inl (cB36, 6, .inl f37))]) [0, 1, 2, 3, 4] (by decide) rfl
      have hK9 := hK.sub (tys' := []) [] rfl
      exact W.iret (v := z52) hx hb hr (fun t ht hW => ⟨⟨z52, (), rfl, (by first | trivial | omega | (simp only [ltv_0]; omega)), by rw [ht]; exact hP9, va_K.moved hW.alike hK9, hD9⟩, hS.F ht⟩) hS.2.2 dX11_wishBy_85
    · simp only [fa_lt, fa_le, fa_eq, ltv_0, ltv_2] at c46
      refine lv_iload hx hb dX11_wishBy_60 (lv_at hl 0 rfl) ?_
      refine lv_goto (tgt := 82) hx hb dX11_wishBy_62 (by decide) ?_
      refine cl_i (wc := []) (wr := [(a0, .inr (8, [g10, g11, g12, g13, g14, g15, g16, g17, g18, g19, g20, .ref a6, .ref a7, .ref a8, g21, .ref a9, g22, g23, g24, g25, g26, g27, g28, g29])), (a6, .inl (cB30, 6, .inl f31)), (a7, .inl (cB32, 6, .inl f33)), (a8, .inl (cB34, 6, .inl f35)), (a9, .inl (cB36, 6, .inl f37))]) (va_runS (As := [.int z44]) (rest := []) ⟨hx, hb, hml, hown, hts⟩ (kX11_cut l dC dI z44  H.size) (va_cwS 1 hts gX11_wishBy_1 rfl rfl rfl (by decide +kernel) ⟨Nat.le_of_ble_eq_true rfl, Nat.le_of_ble_eq_true rfl⟩) (PS (hP.sub (ws' := []) [] rfl) (hK.sub (tys' := []) [] rfl) (hD.sub (ws' := []) [] (by decide) rfl) hN) rfl rfl hl.1 rfl (lv_room (Nat.le_of_ble_eq_true rfl)) dX11_wishBy_82 ⟨Nat.le_of_ble_eq_true rfl, Nat.le_of_ble_eq_true rfl⟩) hP hD hK hS hA [] [0, 1, 2, 3, 4] rfl rfl (by decide) (by decide) (fun z54 _u H locs hw hP hD hK hS => ?_)
      have b55 := hw
      have hP : va_P (dC, dI) vwCl [(a0, .inr (8, [g10, g11, g12, g13, g14, g15, g16, g17, g18, g19, g20, .ref a6, .ref a7, .ref a8, g21, .ref a9, g22, g23, g24, g25, g26, g27, g28, g29])), (a6, .inl (cB30, 6, .inl f31)), (a7, .inl (cB32, 6, .inl f33)), (a8, .inl (cB34, 6, .inl f35)), (a9, .inl (cB36, 6, .inl f37))] H := hP
      have hD : va_D A [(a0, .inr (8, [g10, g11, g12, g13, g14, g15, g16, g17, g18, g19, g20, .ref a6, .ref a7, .ref a8, g21, .ref a9, g22, g23, g24, g25, g26, g27, g28, g29])), (a6, .inl (cB30, 6, .inl f31)), (a7, .inl (cB32, 6, .inl f33)), (a8, .inl (cB34, 6, .inl f35)), (a9, .inl (cB36, 6, .inl f37))] := hD
      have hK : va_K (dC, dI) vwCl [(cB30, .int), (cB32, .int), (cB34, .int), (cB36, .int)] s := hK
      have hP9 := hP.sub (ws' := [(a0, .inr (8, [g10, g11, g12, g13, g14, g15, g16, g17, g18, g19, g20, .ref a6, .ref a7, .ref a8, g21, .ref a9, g22, g23, g24, g25, g26, g27, g28, g29])), (a6, .inl (cB30, 6, .inl f31)), (a7, .inl (cB32, 6, .inl f33)), (a8, .inl (cB34, 6, .inl f35)), (a9, .inl (cB36, 6, .inl f37))]) [0, 1, 2, 3, 4] rfl
      have hD9 := hD.sub (ws' := [(a0, .inr (8, [g10, g11, g12, g13, g14, g15, g16, g17, g18, g19, g20, .ref a6, .ref a7, .ref a8, g21, .ref a9, g22, g23, g24, g25, g26, g27, g28, g29])), (a6, .inl (cB30, 6, .inl f31)), (a7, .inl (cB32, 6, .inl f33)), (a8, .inl (cB34, 6, .inl f35)), (a9, .inl (cB36, 6, .inl f37))]) [0, 1, 2, 3, 4] (by decide) rfl
      have hK9 := hK.sub (tys' := []) [] rfl
      exact W.iret (v := z54) hx hb hr (fun t ht hW => ⟨⟨z54, (), rfl, (by first | trivial | omega | (simp only [ltv_0]; omega)), by rw [ht]; exact hP9, va_K.moved hW.alike hK9, hD9⟩, hS.F ht⟩) hS.2.2 dX11_wishBy_85
theorem dX11_wish_0 : decode cX11_wish 0 = .ok (.aload_n 0, 1) := by decide +kernel
theorem dX11_wish_1 : decode cX11_wish 1 = .ok (.aload_n 0, 1) := by decide +kernel
theorem dX11_wish_10 : decode cX11_wish 10 = .ok (.iload 4, 2) := by decide +kernel
theorem dX11_wish_12 : decode cX11_wish 12 = .ok (.invokevirtual 62, 3) := by decide +kernel
theorem dX11_wish_15 : decode cX11_wish 15 = .ok (.ireturn, 1) := by decide +kernel
theorem dX11_wish_2 : decode cX11_wish 2 = .ok (.getfield 28, 3) := by decide +kernel
theorem dX11_wish_5 : decode cX11_wish 5 = .ok (.iload_n 1, 1) := by decide +kernel
theorem dX11_wish_6 : decode cX11_wish 6 = .ok (.iaload, 1) := by decide +kernel
theorem dX11_wish_7 : decode cX11_wish 7 = .ok (.iload_n 1, 1) := by decide +kernel
theorem dX11_wish_8 : decode cX11_wish 8 = .ok (.iload_n 2, 1) := by decide +kernel
theorem dX11_wish_9 : decode cX11_wish 9 = .ok (.iload_n 3, 1) := by decide +kernel
def vX11_wish : List Cond := .code yX11_wish cX11_wish 5 (some .int) :: ([.fieldLink RX11 28 "HookPierModel$Pier" "hunger" "[I", .methodLink RX11 62 yX11_wishBy, .instanceMethod yX11_wishBy, .selects RX11 yX11_wishBy yX11_wishBy, .initialized RX11, .code yX11_wishBy cX11_wishBy 7 (some .int), .fieldLink RX11 19 "HookPierModel$Pier" "kind" "[I", .fieldLink RX11 31 "HookPierModel$Pier" "likes" "[I", .fieldLink RX11 22 "HookPierModel$Pier" "spot" "[I", .code yX12_apart cX12_apart 2 (some .int), .initialized RX12, .static yX12_apart, .fieldLink RX11 25 "HookPierModel$Pier" "depth" "[I", .methodLink RX11 70 yX11_cut, .static yX11_cut, .code yX11_cut cX11_cut 1 (some .int)] ++ wsX110)
theorem iX11_wish_X11 : ∀ w ∈ wsX110, w ∈ vX11_wish := fun _ h => List.mem_cons_of_mem _ (List.mem_append_right _ h)
set_option maxRecDepth 20000 in
theorem gX11_wish_0 : GoodIn vX11_wish (wsV RX11 62 RX11 yX11_wishBy vX11_wishBy) := goodIn_app (goodIn_r [.methodLink RX11 62 yX11_wishBy, .instanceMethod yX11_wishBy, .selects RX11 yX11_wishBy yX11_wishBy, .initialized RX11] [2, 3, 4, 5] (by decide +kernel) (by decide +kernel)) (goodIn_ca (goodIn_r (.code yX11_wishBy cX11_wishBy 7 (some .int) :: [.fieldLink RX11 19 "HookPierModel$Pier" "kind" "[I", .fieldLink RX11 31 "HookPierModel$Pier" "likes" "[I", .fieldLink RX11 22 "HookPierModel$Pier" "spot" "[I", .code yX12_apart cX12_apart 2 (some .int), .initialized RX12, .static yX12_apart, .fieldLink RX11 25 "HookPierModel$Pier" "depth" "[I", .methodLink RX11 70 yX11_cut, .static yX11_cut, .initialized RX11, .code yX11_cut cX11_cut 1 (some .int)]) [6, 7, 8, 9, 10, 11, 12, 13, 14, 15, 5, 16] (by decide +kernel) (by decide +kernel) : GoodIn vX11_wish (.code yX11_wishBy cX11_wishBy 7 (some .int) :: [.fieldLink RX11 19 "HookPierModel$Pier" "kind" "[I", .fieldLink RX11 31 "HookPierModel$Pier" "likes" "[I", .fieldLink RX11 22 "HookPierModel$Pier" "spot" "[I", .code yX12_apart cX12_apart 2 (some .int), .initialized RX12, .static yX12_apart, .fieldLink RX11 25 "HookPierModel$Pier" "depth" "[I", .methodLink RX11 70 yX11_cut, .static yX11_cut, .initialized RX11, .code yX11_cut cX11_cut 1 (some .int)])) (goodIn_sub iX11_wish_X11 (by decide +kernel)))
set_option maxHeartbeats 2000000 in
set_option maxRecDepth 100000 in
theorem kX11_wish (l : Launch) (dC : Nat → ClassId) (dI : Nat → Nat → Nat) (a0 : Nat) (k1 : Int32) (k2 : Int32) (k3 : Int32) (k4 : Int32) (a5 : Nat) (a6 : Nat) (a7 : Nat) (a8 : Nat) (a9 : Nat) (g10 : Value) (g11 : Value) (g12 : Value) (g13 : Value) (g14 : Value) (g15 : Value) (g16 : Value) (g17 : Value) (g18 : Value) (g19 : Value) (g20 : Value) (g21 : Value) (g22 : Value) (g23 : Value) (g24 : Value) (g25 : Value) (g26 : Value) (g27 : Value) (g28 : Value) (cB29 : ClassId) (f30 : Nat → Int32) (cB31 : ClassId) (f32 : Nat → Int32) (cB33 : ClassId) (f34 : Nat → Int32) (cB35 : ClassId) (f36 : Nat → Int32) (cB37 : ClassId) (f38 : Nat → Int32) (hk1 : (0 ≤ k1.toInt ∧ k1.toInt ≤ 5)) (sz : Nat) : Met l yX11_wish vX11_wish ({ frames := 2, cells := 0, slots := 0, locals := 47 }) (PC (dC, dI) [.ref a0, .int k1, .int k2, .int k3, .int k4] sz [(a0, .inr (8, [g10, g11, g12, g13, g14, g15, g16, g17, g18, g19, g20, .ref a5, .ref a6, .ref a7, .ref a8, .ref a9, g21, g22, g23, g24, g25, g26, g27, g28])), (a5, .inl (cB29, 6, .inl f30)), (a6, .inl (cB31, 6, .inl f32)), (a7, .inl (cB33, 6, .inl f34)), (a8, .inl (cB35, 6, .inl f36)), (a9, .inl (cB37, 6, .inl f38))] [(cB29, .int), (cB31, .int), (cB33, .int), (cB35, .int), (cB37, .int)]) (va_Qi (S := Unit) (fun (r : Int32) _ => (0 ≤ r.toInt ∧ r.toInt ≤ 100)) (fun _ t => BC (dC, dI) (va_A [(a0, .inr (8, [g10, g11, g12, g13, g14, g15, g16, g17, g18, g19, g20, .ref a5, .ref a6, .ref a7, .ref a8, .ref a9, g21, g22, g23, g24, g25, g26, g27, g28])), (a5, .inl (cB29, 6, .inl f30)), (a6, .inl (cB31, 6, .inl f32)), (a7, .inl (cB33, 6, .inl f34)), (a8, .inl (cB35, 6, .inl f36)), (a9, .inl (cB37, 6, .inl f38))] sz) [(a0, .inr (8, [g10, g11, g12, g13, g14, g15, g16, g17, g18, g19, g20, .ref a5, .ref a6, .ref a7, .ref a8, .ref a9, g21, g22, g23, g24, g25, g26, g27, g28])), (a5, .inl (cB29, 6, .inl f30)), (a6, .inl (cB31, 6, .inl f32)), (a7, .inl (cB33, 6, .inl f34)), (a8, .inl (cB35, 6, .inl f36)), (a9, .inl (cB37, 6, .inl f38))] [] t) (va_A [(a0, .inr (8, [g10, g11, g12, g13, g14, g15, g16, g17, g18, g19, g20, .ref a5, .ref a6, .ref a7, .ref a8, .ref a9, g21, g22, g23, g24, g25, g26, g27, g28])), (a5, .inl (cB29, 6, .inl f30)), (a6, .inl (cB31, 6, .inl f32)), (a7, .inl (cB33, 6, .inl f34)), (a8, .inl (cB35, 6, .inl f36)), (a9, .inl (cB37, 6, .inl f38))] sz)) 0 0 (va_A [(a0, .inr (8, [g10, g11, g12, g13, g14, g15, g16, g17, g18, g19, g20, .ref a5, .ref a6, .ref a7, .ref a8, .ref a9, g21, g22, g23, g24, g25, g26, g27, g28])), (a5, .inl (cB29, 6, .inl f30)), (a6, .inl (cB31, 6, .inl f32)), (a7, .inl (cB33, 6, .inl f34)), (a8, .inl (cB35, 6, .inl f36)), (a9, .inl (cB37, 6, .inl f38))] sz) := by
  refine Met.ofW (cc := cX11_wish) (maxL := 5) (ret := (some .int)) (by decide) rfl ?_
  intro p e s m args below meth c s₁ B hml hv
  obtain ⟨rfl, hsz, hP, hK, hD0, hN⟩ := hv
  have hx := B.exec
  have hb := B.bytes
  have hr := B.returns
  have hts := atoms_spec (ws := vX11_wish) B.pre
  have hown : s.vm.findClass RX11 = some m.cls := findClass_of_methodNamed B.named
  have hlocks := B.notSynchronized
  subst hsz
  have hD := hD0.self (sz := s.heap.size)
  generalize hAe : va_A [(a0, .inr (8, [g10, g11, g12, g13, g14, g15, g16, g17, g18, g19, g20, .ref a5, .ref a6, .ref a7, .ref a8, .ref a9, g21, g22, g23, g24, g25, g26, g27, g28])), (a5, .inl (cB29, 6, .inl f30)), (a6, .inl (cB31, 6, .inl f32)), (a7, .inl (cB33, 6, .inl f34)), (a8, .inl (cB35, 6, .inl f36)), (a9, .inl (cB37, 6, .inl f38))] s.heap.size = A at hD ⊢
  have hA : ∀ q : Nat, s.heap.size ≤ q → A q := fun q h => by rw [← hAe]; exact Or.inr h
  have hS : va_S A s.heap s.heap [] := va_S.rf
  have hP : va_P (dC, dI) vwCl [(a0, .inr (8, [g10, g11, g12, g13, g14, g15, g16, g17, g18, g19, g20, .ref a5, .ref a6, .ref a7, .ref a8, .ref a9, g21, g22, g23, g24, g25, g26, g27, g28])), (a5, .inl (cB29, 6, .inl f30)), (a6, .inl (cB31, 6, .inl f32)), (a7, .inl (cB33, 6, .inl f34)), (a8, .inl (cB35, 6, .inl f36)), (a9, .inl (cB37, 6, .inl f38))] s.heap := hP
  have hl := lv_entry ([.ref a0, .int k1, .int k2, .int k3, .int k4]) (n := 5) (Nat.le_of_ble_eq_true rfl)
  rw [lg_entry_eq]
  generalize (lg_sl ([.ref a0, .int k1, .int k2, .int k3, .int k4]) ++ List.replicate (5 - (lg_sl ([.ref a0, .int k1, .int k2, .int k3, .int k4])).length) Slot.unset).toArray = ls at hl ⊢
  have hl : lv_has ls 5 [(0, .ref a0), (1, .int k1), (2, .int k2), (3, .int k3), (4, .int k4)] := hl
  refine lv_aload_n hx hb dX11_wish_0 rfl (lv_at hl 0 rfl) ?_
  refine lv_aload_n hx hb dX11_wish_1 rfl (lv_at hl 0 rfl) ?_
  refine va_get (D := (dC, dI)) (ci := 8) (v := .ref a8) (C := RX11) (T := TX11) (N := 24) hx hb hts iX11_wish_X11 hown hK hP 0 rfl rfl 14 (by decide) (hts (.fieldLink RX11 28 "HookPierModel$Pier" "hunger" "[I") (List.mem_of_getElem? (i := 1) rfl)) (fun _ h9 => h9) rfl dX11_wish_2 ?_
  refine lv_iload_n hx hb dX11_wish_5 rfl (lv_at hl 1 rfl) ?_
  refine va_iald hx hb hK hP 4 3 rfl rfl (vp_in_iff.mpr (by omega)) dX11_wish_6 ?_
  refine lv_topi (fun z1 ez1 => ?_)
  clear ez1
  refine lv_iload_n hx hb dX11_wish_7 rfl (lv_at hl 1 rfl) ?_
  refine lv_iload_n hx hb dX11_wish_8 rfl (lv_at hl 2 rfl) ?_
  refine lv_iload_n hx hb dX11_wish_9 rfl (lv_at hl 3 rfl) ?_
  refine lv_iload hx hb dX11_wish_10 (lv_at hl 4 rfl) ?_
  refine cl_i (wc := [(a0, .inr (8, [g10, g11, g12, g13, g14, g15, g16, g17, g18, g19, g20, .ref a5, .ref a6, .ref a7, .ref a8, .ref a9, g21, g22, g23, g24, g25, g26, g27, g28])), (a5, .inl (cB29, 6, .inl f30)), (a6, .inl (cB31, 6, .inl f32)), (a7, .inl (cB33, 6, .inl f34)), (a9, .inl (cB37, 6, .inl f38))]) (wr := [(a8, .inl (cB35, 6, .inl f36))]) (va_runV (As := [.int z1, .int k1, .int k2, .int k3, .int k4]) (rest := []) ⟨hx, hb, hml, hown, hts⟩ (kX11_wishBy l dC dI a0 z1 k1 k2 k3 k4 a5 a6 a7 a9 (g10) (g11) (g12) (g13) (g14) (g15) (g16) (g17) (g18) (g19) (g20) (.ref a8) (g21) (g22) (g23) (g24) (g25) (g26) (g27) (g28) cB29 f30 cB31 f32 cB33 f34 cB37 f38 (by first | omega | (simp only [ltv_0]; omega)) s.heap.size) (cwV 5 hts gX11_wish_0 rfl rfl rfl (by decide +kernel) ⟨Nat.le_of_ble_eq_true rfl, Nat.le_of_ble_eq_true rfl⟩) (PV (hP.sub (ws' := [(a0, .inr (8, [g10, g11, g12, g13, g14, g15, g16, g17, g18, g19, g20, .ref a5, .ref a6, .ref a7, .ref a8, .ref a9, g21, g22, g23, g24, g25, g26, g27, g28])), (a5, .inl (cB29, 6, .inl f30)), (a6, .inl (cB31, 6, .inl f32)), (a7, .inl (cB33, 6, .inl f34)), (a9, .inl (cB37, 6, .inl f38))]) [0, 1, 2, 3, 5] rfl) (hK.sub (tys' := [(cB29, .int), (cB31, .int), (cB33, .int), (cB37, .int)]) [0, 1, 2, 4] rfl) (hD.sub (ws' := [(a0, .inr (8, [g10, g11, g12, g13, g14, g15, g16, g17, g18, g19, g20, .ref a5, .ref a6, .ref a7, .ref a8, .ref a9, g21, g22, g23, g24, g25, g26, g27, g28])), (a5, .inl (cB29, 6, .inl f30)), (a6, .inl (cB31, 6, .inl f32)), (a7, .inl (cB33, 6, .inl f34)), (a9, .inl (cB37, 6, .inl f38))]) [0, 1, 2, 3, 5] (by decide) rfl) hN 0 rfl rfl) rfl rfl hl.1 rfl (lv_room (Nat.le_of_ble_eq_true rfl)) dX11_wish_12 ⟨Nat.le_of_ble_eq_true rfl, Nat.le_of_ble_eq_true rfl⟩) hP hD hK hS hA [0, 1, 2, 3, 5] [4] rfl rfl (by decide) (by decide) (fun z2 _u H locs hw hP hD hK hS => ?_)
  have b3 := hw
  have hP : va_P (dC, dI) vwCl [(a8, .inl (cB35, 6, .inl f36)), (a0, .inr (8, [g10, g11, g12, g13, g14, g15, g16, g17, g18, g19, g20, .ref a5, .ref a6, .ref a7, .ref a8, .ref a9, g21, g22, g23, g24, g25, g26, g27, g28])), (a5, .inl (cB29, 6, .inl f30)), (a6, .inl (cB31, 6, .inl f32)), (a7, .inl (cB33, 6, .inl f34)), (a9, .inl (cB37, 6, .inl f38))] H := hP
  have hD : va_D A [(a8, .inl (cB35, 6, .inl f36)), (a0, .inr (8, [g10, g11, g12, g13, g14, g15, g16, g17, g18, g19, g20, .ref a5, .ref a6, .ref a7, .ref a8, .ref a9, g21, g22, g23, g24, g25, g26, g27, g28])), (a5, .inl (cB29, 6, .inl f30)), (a6, .inl (cB31, 6, .inl f32)), (a7, .inl (cB33, 6, .inl f34)), (a9, .inl (cB37, 6, .inl f38))] := hD
  have hK : va_K (dC, dI) vwCl [(cB29, .int), (cB31, .int), (cB33, .int), (cB35, .int), (cB37, .int)] s := hK
  have hP9 := hP.sub (ws' := [(a0, .inr (8, [g10, g11, g12, g13, g14, g15, g16, g17, g18, g19, g20, .ref a5, .ref a6, .ref a7, .ref a8, .ref a9, g21, g22, g23, g24, g25, g26, g27, g28])), (a5, .inl (cB29, 6, .inl f30)), (a6, .inl (cB31, 6, .inl f32)), (a7, .inl (cB33, 6, .inl f34)), (a8, .inl (cB35, 6, .inl f36)), (a9, .inl (cB37, 6, .inl f38))]) [1, 2, 3, 4, 0, 5] rfl
  have hD9 := hD.sub (ws' := [(a0, .inr (8, [g10, g11, g12, g13, g14, g15, g16, g17, g18, g19, g20, .ref a5, .ref a6, .ref a7, .ref a8, .ref a9, g21, g22, g23, g24, g25, g26, g27, g28])), (a5, .inl (cB29, 6, .inl f30)), (a6, .inl (cB31, 6, .inl f32)), (a7, .inl (cB33, 6, .inl f34)), (a8, .inl (cB35, 6, .inl f36)), (a9, .inl (cB37, 6, .inl f38))]) [1, 2, 3, 4, 0, 5] (by decide) rfl
  have hK9 := hK.sub (tys' := []) [] rfl
  exact W.iret (v := z2) hx hb hr (fun t ht hW => ⟨⟨z2, (), rfl, (by first | trivial | omega | (simp only [ltv_0]; omega)), by rw [ht]; exact hP9, va_K.moved hW.alike hK9, hD9⟩, hS.F ht⟩) hS.2.2 dX11_wish_15
theorem dX12_wishOf_0 : decode cX12_wishOf 0 = .ok (.aload_n 0, 1) := by decide +kernel
theorem dX12_wishOf_1 : decode cX12_wishOf 1 = .ok (.getfield 299, 3) := by decide +kernel
theorem dX12_wishOf_10 : decode cX12_wishOf 10 = .ok (.aload_n 0, 1) := by decide +kernel
theorem dX12_wishOf_11 : decode cX12_wishOf 11 = .ok (.iload_n 2, 1) := by decide +kernel
theorem dX12_wishOf_12 : decode cX12_wishOf 12 = .ok (.invokevirtual 310, 3) := by decide +kernel
theorem dX12_wishOf_15 : decode cX12_wishOf 15 = .ok (.aload_n 0, 1) := by decide +kernel
theorem dX12_wishOf_16 : decode cX12_wishOf 16 = .ok (.iload_n 2, 1) := by decide +kernel
theorem dX12_wishOf_17 : decode cX12_wishOf 17 = .ok (.invokevirtual 313, 3) := by decide +kernel
theorem dX12_wishOf_20 : decode cX12_wishOf 20 = .ok (.invokevirtual 316, 3) := by decide +kernel
theorem dX12_wishOf_23 : decode cX12_wishOf 23 = .ok (.ireturn, 1) := by decide +kernel
theorem dX12_wishOf_4 : decode cX12_wishOf 4 = .ok (.iload_n 1, 1) := by decide +kernel
theorem dX12_wishOf_5 : decode cX12_wishOf 5 = .ok (.aload_n 0, 1) := by decide +kernel
theorem dX12_wishOf_6 : decode cX12_wishOf 6 = .ok (.iload_n 2, 1) := by decide +kernel
theorem dX12_wishOf_7 : decode cX12_wishOf 7 = .ok (.invokevirtual 307, 3) := by decide +kernel
def vX12_wishOf : List Cond := .code yX12_wishOf cX12_wishOf 3 (some .int) :: ([.fieldLink RX12 299 "HookPierModel" "pier" "LHookPierModel$Pier;", .methodLink RX12 307 yX12_spotOf, .instanceMethod yX12_spotOf, .selects RX12 yX12_spotOf yX12_spotOf, .initialized RX12, .code yX12_spotOf cX12_spotOf 2 (some .int), .methodLink RX12 310 yX12_fathomsOf, .instanceMethod yX12_fathomsOf, .selects RX12 yX12_fathomsOf yX12_fathomsOf, .code yX12_fathomsOf cX12_fathomsOf 2 (some .int), .methodLink RX12 313 yX12_baitOf, .instanceMethod yX12_baitOf, .selects RX12 yX12_baitOf yX12_baitOf, .code yX12_baitOf cX12_baitOf 2 (some .int), .methodLink RX12 316 yX11_wish, .instanceMethod yX11_wish, .selects RX11 yX11_wish yX11_wish, .initialized RX11, .code yX11_wish cX11_wish 5 (some .int), .fieldLink RX11 28 "HookPierModel$Pier" "hunger" "[I", .methodLink RX11 62 yX11_wishBy, .instanceMethod yX11_wishBy, .selects RX11 yX11_wishBy yX11_wishBy, .code yX11_wishBy cX11_wishBy 7 (some .int), .fieldLink RX11 19 "HookPierModel$Pier" "kind" "[I", .fieldLink RX11 31 "HookPierModel$Pier" "likes" "[I", .fieldLink RX11 22 "HookPierModel$Pier" "spot" "[I", .code yX12_apart cX12_apart 2 (some .int), .static yX12_apart, .fieldLink RX11 25 "HookPierModel$Pier" "depth" "[I", .methodLink RX11 70 yX11_cut, .static yX11_cut, .code yX11_cut cX11_cut 1 (some .int)] ++ wsX120 ++ wsX110)
theorem iX12_wishOf_X12 : ∀ w ∈ wsX120, w ∈ vX12_wishOf := fun _ h => List.mem_cons_of_mem _ (List.mem_append_left _ (List.mem_append_right _ h))
theorem iX12_wishOf_X11 : ∀ w ∈ wsX110, w ∈ vX12_wishOf := fun _ h => List.mem_cons_of_mem _ (List.mem_append_right _ h)
set_option maxRecDepth 20000 in
theorem gX12_wishOf_0 : GoodIn vX12_wishOf (wsV RX12 307 RX12 yX12_spotOf vX12_spotOf) := goodIn_app (goodIn_r [.methodLink RX12 307 yX12_spotOf, .instanceMethod yX12_spotOf, .selects RX12 yX12_spotOf yX12_spotOf, .initialized RX12] [2, 3, 4, 5] (by decide +kernel) (by decide +kernel)) (goodIn_ca (goodIn_ca (goodIn_r (.code yX12_spotOf cX12_spotOf 2 (some .int) :: [.fieldLink RX12 299 "HookPierModel" "pier" "LHookPierModel$Pier;"]) [6, 1] (by decide +kernel) (by decide +kernel) : GoodIn vX12_wishOf (.code yX12_spotOf cX12_spotOf 2 (some .int) :: [.fieldLink RX12 299 "HookPierModel" "pier" "LHookPierModel$Pier;"])) (goodIn_sub iX12_wishOf_X12 (by decide +kernel))) (goodIn_sub iX12_wishOf_X11 (by decide +kernel)))
set_option maxRecDepth 20000 in
theorem gX12_wishOf_1 : GoodIn vX12_wishOf (wsV RX12 310 RX12 yX12_fathomsOf vX12_fathomsOf) := goodIn_app (goodIn_r [.methodLink RX12 310 yX12_fathomsOf, .instanceMethod yX12_fathomsOf, .selects RX12 yX12_fathomsOf yX12_fathomsOf, .initialized RX12] [7, 8, 9, 5] (by decide +kernel) (by decide +kernel)) (goodIn_ca (goodIn_ca (goodIn_r (.code yX12_fathomsOf cX12_fathomsOf 2 (some .int) :: [.fieldLink RX12 299 "HookPierModel" "pier" "LHookPierModel$Pier;"]) [10, 1] (by decide +kernel) (by decide +kernel) : GoodIn vX12_wishOf (.code yX12_fathomsOf cX12_fathomsOf 2 (some .int) :: [.fieldLink RX12 299 "HookPierModel" "pier" "LHookPierModel$Pier;"])) (goodIn_sub iX12_wishOf_X12 (by decide +kernel))) (goodIn_sub iX12_wishOf_X11 (by decide +kernel)))
set_option maxRecDepth 20000 in
theorem gX12_wishOf_2 : GoodIn vX12_wishOf (wsV RX12 313 RX12 yX12_baitOf vX12_baitOf) := goodIn_app (goodIn_r [.methodLink RX12 313 yX12_baitOf, .instanceMethod yX12_baitOf, .selects RX12 yX12_baitOf yX12_baitOf, .initialized RX12] [11, 12, 13, 5] (by decide +kernel) (by decide +kernel)) (goodIn_ca (goodIn_ca (goodIn_r (.code yX12_baitOf cX12_baitOf 2 (some .int) :: [.fieldLink RX12 299 "HookPierModel" "pier" "LHookPierModel$Pier;"]) [14, 1] (by decide +kernel) (by decide +kernel) : GoodIn vX12_wishOf (.code yX12_baitOf cX12_baitOf 2 (some .int) :: [.fieldLink RX12 299 "HookPierModel" "pier" "LHookPierModel$Pier;"])) (goodIn_sub iX12_wishOf_X12 (by decide +kernel))) (goodIn_sub iX12_wishOf_X11 (by decide +kernel)))
set_option maxRecDepth 20000 in
theorem gX12_wishOf_3 : GoodIn vX12_wishOf (wsV RX12 316 RX11 yX11_wish vX11_wish) := goodIn_app (goodIn_r [.methodLink RX12 316 yX11_wish, .instanceMethod yX11_wish, .selects RX11 yX11_wish yX11_wish, .initialized RX11] [15, 16, 17, 18] (by decide +kernel) (by decide +kernel)) (goodIn_ca (goodIn_r (.code yX11_wish cX11_wish 5 (some .int) :: [.fieldLink RX11 28 "HookPierModel$Pier" "hunger" "[I", .methodLink RX11 62 yX11_wishBy, .instanceMethod yX11_wishBy, .selects RX11 yX11_wishBy yX11_wishBy, .initialized RX11, .code yX11_wishBy cX11_wishBy 7 (some .int), .fieldLink RX11 19 "HookPierModel$Pier" "kind" "[I", .fieldLink RX11 31 "HookPierModel$Pier" "likes" "[I", .fieldLink RX11 22 "HookPierModel$Pier" "spot" "[I", .code yX12_apart cX12_apart 2 (some .int), .initialized RX12, .static yX12_apart, .fieldLink RX11 25 "HookPierModel$Pier" "depth" "[I", .methodLink RX11 70 yX11_cut, .static yX11_cut, .code yX11_cut cX11_cut 1 (some .int)]) [19, 20, 21, 22, 23, 18, 24, 25, 26, 27, 28, 5, 29, 30, 31, 32, 33] (by decide +kernel) (by decide +kernel) : GoodIn vX12_wishOf (.code yX11_wish cX11_wish 5 (some .int) :: [.fieldLink RX11 28 "HookPierModel$Pier" "hunger" "[I", .methodLink RX11 62 yX11_wishBy, .instanceMethod yX11_wishBy, .selects RX11 yX11_wishBy yX11_wishBy, .initialized RX11, .code yX11_wishBy cX11_wishBy 7 (some .int), .fieldLink RX11 19 "HookPierModel$Pier" "kind" "[I", .fieldLink RX11 31 "HookPierModel$Pier" "likes" "[I", .fieldLink RX11 22 "HookPierModel$Pier" "spot" "[I", .code yX12_apart cX12_apart 2 (some .int), .initialized RX12, .static yX12_apart, .fieldLink RX11 25 "HookPierModel$Pier" "depth" "[I", .methodLink RX11 70 yX11_cut, .static yX11_cut, .code yX11_cut cX11_cut 1 (some .int)])) (goodIn_sub iX12_wishOf_X11 (by decide +kernel)))
set_option maxHeartbeats 2000000 in
set_option maxRecDepth 100000 in
theorem kX12_wishOf (l : Launch) (dC : Nat → ClassId) (dI : Nat → Nat → Nat) (a0 : Nat) (k1 : Int32) (k2 : Int32) (a3 : Nat) (a4 : Nat) (a5 : Nat) (a6 : Nat) (a7 : Nat) (a8 : Nat) (g9 : Value) (g10 : Value) (g11 : Value) (g12 : Value) (g13 : Value) (g14 : Value) (g15 : Value) (g16 : Value) (g17 : Value) (g18 : Value) (g19 : Value) (g20 : Value) (g21 : Value) (g22 : Value) (g23 : Value) (g24 : Value) (g25 : Value) (g26 : Value) (g27 : Value) (g28 : Value) (g29 : Value) (g30 : Value) (g31 : Value) (g32 : Value) (g33 : Value) (g34 : Value) (g35 : Value) (g36 : Value) (g37 : Value) (g38 : Value) (k39 : Int32) (g40 : Value) (g41 : Value) (k42 : Int32) (g43 : Value) (g44 : Value) (g45 : Value) (g46 : Value) (g47 : Value) (g48 : Value) (g49 : Value) (g50 : Value) (g51 : Value) (g52 : Value) (g53 : Value) (g54 : Value) (g55 : Value) (g56 : Value) (cB57 : ClassId) (f58 : Nat → Int32) (cB59 : ClassId) (f60 : Nat → Int32) (cB61 : ClassId) (f62 : Nat → Int32) (cB63 : ClassId) (f64 : Nat → Int32) (cB65 : ClassId) (f66 : Nat → Int32) (hk1 : (0 ≤ k1.toInt ∧ k1.toInt ≤ 5)) (hk39 : (1 ≤ k39.toInt ∧ k39.toInt ≤ 9)) (hk42 : (1 ≤ k42.toInt ∧ k42.toInt ≤ 4)) (sz : Nat) : Met l yX12_wishOf vX12_wishOf ({ frames := 3, cells := 0, slots := 0, locals := 71 }) (PC (dC, dI) [.ref a0, .int k1, .int k2] sz [(a0, .inr (9, [g9, g10, g11, .ref a3, g12, g13, g14, g15, g16, g17, g18, g19, g20, g21, g22, g23, g24, g25, g26, g27, g28, g29, g30, g31, g32, g33, g34, g35, g36, g37])), (a3, .inr (8, [g38, .int k39, g40, g41, .int k42, g43, g44, g45, g46, g47, g48, .ref a4, .ref a5, .ref a6, .ref a7, .ref a8, g49, g50, g51, g52, g53, g54, g55, g56])), (a4, .inl (cB57, 6, .inl f58)), (a5, .inl (cB59, 6, .inl f60)), (a6, .inl (cB61, 6, .inl f62)), (a7, .inl (cB63, 6, .inl f64)), (a8, .inl (cB65, 6, .inl f66))] [(cB57, .int), (cB59, .int), (cB61, .int), (cB63, .int), (cB65, .int)]) (va_Qi (S := Unit) (fun (r : Int32) _ => (0 ≤ r.toInt ∧ r.toInt ≤ 100)) (fun _ t => BC (dC, dI) (va_A [(a0, .inr (9, [g9, g10, g11, .ref a3, g12, g13, g14, g15, g16, g17, g18, g19, g20, g21, g22, g23, g24, g25, g26, g27, g28, g29, g30, g31, g32, g33, g34, g35, g36, g37])), (a3, .inr (8, [g38, .int k39, g40, g41, .int k42, g43, g44, g45, g46, g47, g48, .ref a4, .ref a5, .ref a6, .ref a7, .ref a8, g49, g50, g51, g52, g53, g54, g55, g56])), (a4, .inl (cB57, 6, .inl f58)), (a5, .inl (cB59, 6, .inl f60)), (a6, .inl (cB61, 6, .inl f62)), (a7, .inl (cB63, 6, .inl f64)), (a8, .inl (cB65, 6, .inl f66))] sz) [(a0, .inr (9, [g9, g10, g11, .ref a3, g12, g13, g14, g15, g16, g17, g18, g19, g20, g21, g22, g23, g24, g25, g26, g27, g28, g29, g30, g31, g32, g33, g34, g35, g36, g37])), (a3, .inr (8, [g38, .int k39, g40, g41, .int k42, g43, g44, g45, g46, g47, g48, .ref a4, .ref a5, .ref a6, .ref a7, .ref a8, g49, g50, g51, g52, g53, g54, g55, g56])), (a4, .inl (cB57, 6, .inl f58)), (a5, .inl (cB59, 6, .inl f60)), (a6, .inl (cB61, 6, .inl f62)), (a7, .inl (cB63, 6, .inl f64)), (a8, .inl (cB65, 6, .inl f66))] [] t) (va_A [(a0, .inr (9, [g9, g10, g11, .ref a3, g12, g13, g14, g15, g16, g17, g18, g19, g20, g21, g22, g23, g24, g25, g26, g27, g28, g29, g30, g31, g32, g33, g34, g35, g36, g37])), (a3, .inr (8, [g38, .int k39, g40, g41, .int k42, g43, g44, g45, g46, g47, g48, .ref a4, .ref a5, .ref a6, .ref a7, .ref a8, g49, g50, g51, g52, g53, g54, g55, g56])), (a4, .inl (cB57, 6, .inl f58)), (a5, .inl (cB59, 6, .inl f60)), (a6, .inl (cB61, 6, .inl f62)), (a7, .inl (cB63, 6, .inl f64)), (a8, .inl (cB65, 6, .inl f66))] sz)) 0 0 (va_A [(a0, .inr (9, [g9, g10, g11, .ref a3, g12, g13, g14, g15, g16, g17, g18, g19, g20, g21, g22, g23, g24, g25, g26, g27, g28, g29, g30, g31, g32, g33, g34, g35, g36, g37])), (a3, .inr (8, [g38, .int k39, g40, g41, .int k42, g43, g44, g45, g46, g47, g48, .ref a4, .ref a5, .ref a6, .ref a7, .ref a8, g49, g50, g51, g52, g53, g54, g55, g56])), (a4, .inl (cB57, 6, .inl f58)), (a5, .inl (cB59, 6, .inl f60)), (a6, .inl (cB61, 6, .inl f62)), (a7, .inl (cB63, 6, .inl f64)), (a8, .inl (cB65, 6, .inl f66))] sz) := by
  refine Met.ofW (cc := cX12_wishOf) (maxL := 3) (ret := (some .int)) (by decide) rfl ?_
  intro p e s m args below meth c s₁ B hml hv
  obtain ⟨rfl, hsz, hP, hK, hD0, hN⟩ := hv
  have hx := B.exec
  have hb := B.bytes
  have hr := B.returns
  have hts := atoms_spec (ws := vX12_wishOf) B.pre
  have hown : s.vm.findClass RX12 = some m.cls := findClass_of_methodNamed B.named
  have hlocks := B.notSynchronized
  subst hsz
  have hD := hD0.self (sz := s.heap.size)
  generalize hAe : va_A [(a0, .inr (9, [g9, g10, g11, .ref a3, g12, g13, g14, g15, g16, g17, g18, g19, g20, g21, g22, g23, g24, g25, g26, g27, g28, g29, g30, g31, g32, g33, g34, g35, g36, g37])), (a3, .inr (8, [g38, .int k39, g40, g41, .int k42, g43, g44, g45, g46, g47, g48, .ref a4, .ref a5, .ref a6, .ref a7, .ref a8, g49, g50, g51, g52, g53, g54, g55, g56])), (a4, .inl (cB57, 6, .inl f58)), (a5, .inl (cB59, 6, .inl f60)), (a6, .inl (cB61, 6, .inl f62)), (a7, .inl (cB63, 6, .inl f64)), (a8, .inl (cB65, 6, .inl f66))] s.heap.size = A at hD ⊢
  have hA : ∀ q : Nat, s.heap.size ≤ q → A q := fun q h => by rw [← hAe]; exact Or.inr h
  have hS : va_S A s.heap s.heap [] := va_S.rf
  have hP : va_P (dC, dI) vwCl [(a0, .inr (9, [g9, g10, g11, .ref a3, g12, g13, g14, g15, g16, g17, g18, g19, g20, g21, g22, g23, g24, g25, g26, g27, g28, g29, g30, g31, g32, g33, g34, g35, g36, g37])), (a3, .inr (8, [g38, .int k39, g40, g41, .int k42, g43, g44, g45, g46, g47, g48, .ref a4, .ref a5, .ref a6, .ref a7, .ref a8, g49, g50, g51, g52, g53, g54, g55, g56])), (a4, .inl (cB57, 6, .inl f58)), (a5, .inl (cB59, 6, .inl f60)), (a6, .inl (cB61, 6, .inl f62)), (a7, .inl (cB63, 6, .inl f64)), (a8, .inl (cB65, 6, .inl f66))] s.heap := hP
  have hl := lv_entry ([.ref a0, .int k1, .int k2]) (n := 3) (Nat.le_of_ble_eq_true rfl)
  rw [lg_entry_eq]
  generalize (lg_sl ([.ref a0, .int k1, .int k2]) ++ List.replicate (3 - (lg_sl ([.ref a0, .int k1, .int k2])).length) Slot.unset).toArray = ls at hl ⊢
  have hl : lv_has ls 3 [(0, .ref a0), (1, .int k1), (2, .int k2)] := hl
  refine lv_aload_n hx hb dX12_wishOf_0 rfl (lv_at hl 0 rfl) ?_
  refine va_get (D := (dC, dI)) (ci := 9) (v := .ref a3) (C := RX12) (T := TX12) (N := 30) hx hb hts iX12_wishOf_X12 hown hK hP 0 rfl rfl 3 (by decide) (hts (.fieldLink RX12 299 "HookPierModel" "pier" "LHookPierModel$Pier;") (List.mem_of_getElem? (i := 1) rfl)) (fun _ h9 => h9) rfl dX12_wishOf_1 ?_
  refine lv_iload_n hx hb dX12_wishOf_4 rfl (lv_at hl 1 rfl) ?_
  refine lv_aload_n hx hb dX12_wishOf_5 rfl (lv_at hl 0 rfl) ?_
  refine lv_iload_n hx hb dX12_wishOf_6 rfl (lv_at hl 2 rfl) ?_
  refine cl_i (wc := [(a0, .inr (9, [g9, g10, g11, .ref a3, g12, g13, g14, g15, g16, g17, g18, g19, g20, g21, g22, g23, g24, g25, g26, g27, g28, g29, g30, g31, g32, g33, g34, g35, g36, g37])), (a3, .inr (8, [g38, .int k39, g40, g41, .int k42, g43, g44, g45, g46, g47, g48, .ref a4, .ref a5, .ref a6, .ref a7, .ref a8, g49, g50, g51, g52, g53, g54, g55, g56]))]) (wr := [(a4, .inl (cB57, 6, .inl f58)), (a5, .inl (cB59, 6, .inl f60)), (a6, .inl (cB61, 6, .inl f62)), (a7, .inl (cB63, 6, .inl f64)), (a8, .inl (cB65, 6, .inl f66))]) (va_runV (As := [.int k2]) (rest := [.int k1, .ref a3]) ⟨hx, hb, hml, hown, hts⟩ (kX12_spotOf l dC dI a0 k2 a3 (g9) (g10) (g11) (g12) (g13) (g14) (g15) (g16) (g17) (g18) (g19) (g20) (g21) (g22) (g23) (g24) (g25) (g26) (g27) (g28) (g29) (g30) (g31) (g32) (g33) (g34) (g35) (g36) (g37) (g38) k39 (g40) (g41) k42 (g43) (g44) (g45) (g46) (g47) (g48) (.ref a4) (.ref a5) (.ref a6) (.ref a7) (.ref a8) (g49) (g50) (g51) (g52) (g53) (g54) (g55) (g56) (by first | omega | (simp only [ltv_0]; omega)) (by first | omega | (simp only [ltv_0]; omega)) s.heap.size) (cwV 1 hts gX12_wishOf_0 rfl rfl rfl (by decide +kernel) ⟨Nat.le_of_ble_eq_true rfl, Nat.le_of_ble_eq_true rfl⟩) (PV (hP.sub (ws' := [(a0, .inr (9, [g9, g10, g11, .ref a3, g12, g13, g14, g15, g16, g17, g18, g19, g20, g21, g22, g23, g24, g25, g26, g27, g28, g29, g30, g31, g32, g33, g34, g35, g36, g37])), (a3, .inr (8, [g38, .int k39, g40, g41, .int k42, g43, g44, g45, g46, g47, g48, .ref a4, .ref a5, .ref a6, .ref a7, .ref a8, g49, g50, g51, g52, g53, g54, g55, g56]))]) [0, 1] rfl) (hK.sub (tys' := []) [] rfl) (hD.sub (ws' := [(a0, .inr (9, [g9, g10, g11, .ref a3, g12, g13, g14, g15, g16, g17, g18, g19, g20, g21, g22, g23, g24, g25, g26, g27, g28, g29, g30, g31, g32, g33, g34, g35, g36, g37])), (a3, .inr (8, [g38, .int k39, g40, g41, .int k42, g43, g44, g45, g46, g47, g48, .ref a4, .ref a5, .ref a6, .ref a7, .ref a8, g49, g50, g51, g52, g53, g54, g55, g56]))]) [0, 1] (by decide) rfl) hN 0 rfl rfl) rfl rfl hl.1 rfl (lv_room (Nat.le_of_ble_eq_true rfl)) dX12_wishOf_7 ⟨Nat.le_of_ble_eq_true rfl, Nat.le_of_ble_eq_true rfl⟩) hP hD hK hS hA [0, 1] [2, 3, 4, 5, 6] rfl rfl (by decide) (by decide) (fun z1 _u H locs hw hP hD hK hS => ?_)
  have b2 := hw
  have hP : va_P (dC, dI) vwCl [(a4, .inl (cB57, 6, .inl f58)), (a5, .inl (cB59, 6, .inl f60)), (a6, .inl (cB61, 6, .inl f62)), (a7, .inl (cB63, 6, .inl f64)), (a8, .inl (cB65, 6, .inl f66)), (a0, .inr (9, [g9, g10, g11, .ref a3, g12, g13, g14, g15, g16, g17, g18, g19, g20, g21, g22, g23, g24, g25, g26, g27, g28, g29, g30, g31, g32, g33, g34, g35, g36, g37])), (a3, .inr (8, [g38, .int k39, g40, g41, .int k42, g43, g44, g45, g46, g47, g48, .ref a4, .ref a5, .ref a6, .ref a7, .ref a8, g49, g50, g51, g52, g53, g54, g55, g56]))] H := hP
  have hD : va_D A [(a4, .inl (cB57, 6, .inl f58)), (a5, .inl (cB59, 6, .inl f60)), (a6, .inl (cB61, 6, .inl f62)), (a7, .inl (cB63, 6, .inl f64)), (a8, .inl (cB65, 6, .inl f66)), (a0, .inr (9, [g9, g10, g11, .ref a3, g12, g13, g14, g15, g16, g17, g18, g19, g20, g21, g22, g23, g24, g25, g26, g27, g28, g29, g30, g31, g32, g33, g34, g35, g36, g37])), (a3, .inr (8, [g38, .int k39, g40, g41, .int k42, g43, g44, g45, g46, g47, g48, .ref a4, .ref a5, .ref a6, .ref a7, .ref a8, g49, g50, g51, g52, g53, g54, g55, g56]))] := hD
  have hK : va_K (dC, dI) vwCl [(cB57, .int), (cB59, .int), (cB61, .int), (cB63, .int), (cB65, .int)] s := hK
  refine lv_aload_n hx hb dX12_wishOf_10 rfl (lv_at hl 0 rfl) ?_
  refine lv_iload_n hx hb dX12_wishOf_11 rfl (lv_at hl 2 rfl) ?_
  refine cl_i (wc := [(a0, .inr (9, [g9, g10, g11, .ref a3, g12, g13, g14, g15, g16, g17, g18, g19, g20, g21, g22, g23, g24, g25, g26, g27, g28, g29, g30, g31, g32, g33, g34, g35, g36, g37])), (a3, .inr (8, [g38, .int k39, g40, g41, .int k42, g43, g44, g45, g46, g47, g48, .ref a4, .ref a5, .ref a6, .ref a7, .ref a8, g49, g50, g51, g52, g53, g54, g55, g56]))]) (wr := [(a4, .inl (cB57, 6, .inl f58)), (a5, .inl (cB59, 6, .inl f60)), (a6, .inl (cB61, 6, .inl f62)), (a7, .inl (cB63, 6, .inl f64)), (a8, .inl (cB65, 6, .inl f66))]) (va_runV (As := [.int k2]) (rest := [.int z1, .int k1, .ref a3]) ⟨hx, hb, hml, hown, hts⟩ (kX12_fathomsOf l dC dI a0 k2 a3 (g9) (g10) (g11) (g12) (g13) (g14) (g15) (g16) (g17) (g18) (g19) (g20) (g21) (g22) (g23) (g24) (g25) (g26) (g27) (g28) (g29) (g30) (g31) (g32) (g33) (g34) (g35) (g36) (g37) (g38) k39 (g40) (g41) k42 (g43) (g44) (g45) (g46) (g47) (g48) (.ref a4) (.ref a5) (.ref a6) (.ref a7) (.ref a8) (g49) (g50) (g51) (g52) (g53) (g54) (g55) (g56) (by first | omega | (simp only [ltv_0]; omega)) (by first | omega | (simp only [ltv_0]; omega)) H.size) (cwV 1 hts gX12_wishOf_1 rfl rfl rfl (by decide +kernel) ⟨Nat.le_of_ble_eq_true rfl, Nat.le_of_ble_eq_true rfl⟩) (PV (hP.sub (ws' := [(a0, .inr (9, [g9, g10, g11, .ref a3, g12, g13, g14, g15, g16, g17, g18, g19, g20, g21, g22, g23, g24, g25, g26, g27, g28, g29, g30, g31, g32, g33, g34, g35, g36, g37])), (a3, .inr (8, [g38, .int k39, g40, g41, .int k42, g43, g44, g45, g46, g47, g48, .ref a4, .ref a5, .ref a6, .ref a7, .ref a8, g49, g50, g51, g52, g53, g54, g55, g56]))]) [5, 6] rfl) (hK.sub (tys' := []) [] rfl) (hD.sub (ws' := [(a0, .inr (9, [g9, g10, g11, .ref a3, g12, g13, g14, g15, g16, g17, g18, g19, g20, g21, g22, g23, g24, g25, g26, g27, g28, g29, g30, g31, g32, g33, g34, g35, g36, g37])), (a3, .inr (8, [g38, .int k39, g40, g41, .int k42, g43, g44, g45, g46, g47, g48, .ref a4, .ref a5, .ref a6, .ref a7, .ref a8, g49, g50, g51, g52, g53, g54, g55, g56]))]) [5, 6] (by decide) rfl) hN 0 rfl rfl) rfl rfl hl.1 rfl (lv_room (Nat.le_of_ble_eq_true rfl)) dX12_wishOf_12 ⟨Nat.le_of_ble_eq_true rfl, Nat.le_of_ble_eq_true rfl⟩) hP hD hK hS hA [5, 6] [0, 1, 2, 3, 4] rfl rfl (by decide) (by decide) (fun z3 _u H locs hw hP hD hK hS => ?_)
  have b4 := hw
  have hP : va_P (dC, dI) vwCl [(a4, .inl (cB57, 6, .inl f58)), (a5, .inl (cB59, 6, .inl f60)), (a6, .inl (cB61, 6, .inl f62)), (a7, .inl (cB63, 6, .inl f64)), (a8, .inl (cB65, 6, .inl f66)), (a0, .inr (9, [g9, g10, g11, .ref a3, g12, g13, g14, g15, g16, g17, g18, g19, g20, g21, g22, g23, g24, g25, g26, g27, g28, g29, g30, g31, g32, g33, g34, g35, g36, g37])), (a3, .inr (8, [g38, .int k39, g40, g41, .int k42, g43, g44, g45, g46, g47, g48, .ref a4, .ref a5, .ref a6, .ref a7, .ref a8, g49, g50, g51, g52, g53, g54, g55, g56]))] H := hP
  have hD : va_D A [(a4, .inl (cB57, 6, .inl f58)), (a5, .inl (cB59, 6, .inl f60)), (a6, .inl (cB61, 6, .inl f62)), (a7, .inl (cB63, 6, .inl f64)), (a8, .inl (cB65, 6, .inl f66)), (a0, .inr (9, [g9, g10, g11, .ref a3, g12, g13, g14, g15, g16, g17, g18, g19, g20, g21, g22, g23, g24, g25, g26, g27, g28, g29, g30, g31, g32, g33, g34, g35, g36, g37])), (a3, .inr (8, [g38, .int k39, g40, g41, .int k42, g43, g44, g45, g46, g47, g48, .ref a4, .ref a5, .ref a6, .ref a7, .ref a8, g49, g50, g51, g52, g53, g54, g55, g56]))] := hD
  have hK : va_K (dC, dI) vwCl [(cB57, .int), (cB59, .int), (cB61, .int), (cB63, .int), (cB65, .int)] s := hK
  refine lv_aload_n hx hb dX12_wishOf_15 rfl (lv_at hl 0 rfl) ?_
  refine lv_iload_n hx hb dX12_wishOf_16 rfl (lv_at hl 2 rfl) ?_
  refine cl_i (wc := [(a0, .inr (9, [g9, g10, g11, .ref a3, g12, g13, g14, g15, g16, g17, g18, g19, g20, g21, g22, g23, g24, g25, g26, g27, g28, g29, g30, g31, g32, g33, g34, g35, g36, g37])), (a3, .inr (8, [g38, .int k39, g40, g41, .int k42, g43, g44, g45, g46, g47, g48, .ref a4, .ref a5, .ref a6, .ref a7, .ref a8, g49, g50, g51, g52, g53, g54, g55, g56]))]) (wr := [(a4, .inl (cB57, 6, .inl f58)), (a5, .inl (cB59, 6, .inl f60)), (a6, .inl (cB61, 6, .inl f62)), (a7, .inl (cB63, 6, .inl f64)), (a8, .inl (cB65, 6, .inl f66))]) (va_runV (As := [.int k2]) (rest := [.int z3, .int z1, .int k1, .ref a3]) ⟨hx, hb, hml, hown, hts⟩ (kX12_baitOf l dC dI a0 k2 a3 (g9) (g10) (g11) (g12) (g13) (g14) (g15) (g16) (g17) (g18) (g19) (g20) (g21) (g22) (g23) (g24) (g25) (g26) (g27) (g28) (g29) (g30) (g31) (g32) (g33) (g34) (g35) (g36) (g37) (g38) (.int k39) (g40) (g41) k42 (g43) (g44) (g45) (g46) (g47) (g48) (.ref a4) (.ref a5) (.ref a6) (.ref a7) (.ref a8) (g49) (g50) (g51) (g52) (g53) (g54) (g55) (g56) (by first | omega | (simp only [ltv_0]; omega)) H.size) (cwV 1 hts gX12_wishOf_2 rfl rfl rfl (by decide +kernel) ⟨Nat.le_of_ble_eq_true rfl, Nat.le_of_ble_eq_true rfl⟩) (PV (hP.sub (ws' := [(a0, .inr (9, [g9, g10, g11, .ref a3, g12, g13, g14, g15, g16, g17, g18, g19, g20, g21, g22, g23, g24, g25, g26, g27, g28, g29, g30, g31, g32, g33, g34, g35, g36, g37])), (a3, .inr (8, [g38, .int k39, g40, g41, .int k42, g43, g44, g45, g46, g47, g48, .ref a4, .ref a5, .ref a6, .ref a7, .ref a8, g49, g50, g51, g52, g53, g54, g55, g56]))]) [5, 6] rfl) (hK.sub (tys' := []) [] rfl) (hD.sub (ws' := [(a0, .inr (9, [g9, g10, g11, .ref a3, g12, g13, g14, g15, g16, g17, g18, g19, g20, g21, g22, g23, g24, g25, g26, g27, g28, g29, g30, g31, g32, g33, g34, g35, g36, g37])), (a3, .inr (8, [g38, .int k39, g40, g41, .int k42, g43, g44, g45, g46, g47, g48, .ref a4, .ref a5, .ref a6, .ref a7, .ref a8, g49, g50, g51, g52, g53, g54, g55, g56]))]) [5, 6] (by decide) rfl) hN 0 rfl rfl) rfl rfl hl.1 rfl (lv_room (Nat.le_of_ble_eq_true rfl)) dX12_wishOf_17 ⟨Nat.le_of_ble_eq_true rfl, Nat.le_of_ble_eq_true rfl⟩) hP hD hK hS hA [5, 6] [0, 1, 2, 3, 4] rfl rfl (by decide) (by decide) (fun z5 _u H locs hw hP hD hK hS => ?_)
  have b6 := hw
  have hP : va_P (dC, dI) vwCl [(a4, .inl (cB57, 6, .inl f58)), (a5, .inl (cB59, 6, .inl f60)), (a6, .inl (cB61, 6, .inl f62)), (a7, .inl (cB63, 6, .inl f64)), (a8, .inl (cB65, 6, .inl f66)), (a0, .inr (9, [g9, g10, g11, .ref a3, g12, g13, g14, g15, g16, g17, g18, g19, g20, g21, g22, g23, g24, g25, g26, g27, g28, g29, g30, g31, g32, g33, g34, g35, g36, g37])), (a3, .inr (8, [g38, .int k39, g40, g41, .int k42, g43, g44, g45, g46, g47, g48, .ref a4, .ref a5, .ref a6, .ref a7, .ref a8, g49, g50, g51, g52, g53, g54, g55, g56]))] H := hP
  have hD : va_D A [(a4, .inl (cB57, 6, .inl f58)), (a5, .inl (cB59, 6, .inl f60)), (a6, .inl (cB61, 6, .inl f62)), (a7, .inl (cB63, 6, .inl f64)), (a8, .inl (cB65, 6, .inl f66)), (a0, .inr (9, [g9, g10, g11, .ref a3, g12, g13, g14, g15, g16, g17, g18, g19, g20, g21, g22, g23, g24, g25, g26, g27, g28, g29, g30, g31, g32, g33, g34, g35, g36, g37])), (a3, .inr (8, [g38, .int k39, g40, g41, .int k42, g43, g44, g45, g46, g47, g48, .ref a4, .ref a5, .ref a6, .ref a7, .ref a8, g49, g50, g51, g52, g53, g54, g55, g56]))] := hD
  have hK : va_K (dC, dI) vwCl [(cB57, .int), (cB59, .int), (cB61, .int), (cB63, .int), (cB65, .int)] s := hK
  refine cl_i (wc := [(a3, .inr (8, [g38, .int k39, g40, g41, .int k42, g43, g44, g45, g46, g47, g48, .ref a4, .ref a5, .ref a6, .ref a7, .ref a8, g49, g50, g51, g52, g53, g54, g55, g56])), (a4, .inl (cB57, 6, .inl f58)), (a5, .inl (cB59, 6, .inl f60)), (a6, .inl (cB61, 6, .inl f62)), (a7, .inl (cB63, 6, .inl f64)), (a8, .inl (cB65, 6, .inl f66))]) (wr := [(a0, .inr (9, [g9, g10, g11, .ref a3, g12, g13, g14, g15, g16, g17, g18, g19, g20, g21, g22, g23, g24, g25, g26, g27, g28, g29, g30, g31, g32, g33, g34, g35, g36, g37]))]) (va_runV (As := [.int k1, .int z1, .int z3, .int z5]) (rest := []) ⟨hx, hb, hml, hown, hts⟩ (kX11_wish l dC dI a3 k1 z1 z3 z5 a4 a5 a6 a7 a8 (g38) (.int k39) (g40) (g41) (.int k42) (g43) (g44) (g45) (g46) (g47) (g48) (g49) (g50) (g51) (g52) (g53) (g54) (g55) (g56) cB57 f58 cB59 f60 cB61 f62 cB63 f64 cB65 f66 (by first | omega | (simp only [ltv_0]; omega)) H.size) (cwV 4 hts gX12_wishOf_3 rfl rfl rfl (by decide +kernel) ⟨Nat.le_of_ble_eq_true rfl, Nat.le_of_ble_eq_true rfl⟩) (PV (hP.sub (ws' := [(a3, .inr (8, [g38, .int k39, g40, g41, .int k42, g43, g44, g45, g46, g47, g48, .ref a4, .ref a5, .ref a6, .ref a7, .ref a8, g49, g50, g51, g52, g53, g54, g55, g56])), (a4, .inl (cB57, 6, .inl f58)), (a5, .inl (cB59, 6, .inl f60)), (a6, .inl (cB61, 6, .inl f62)), (a7, .inl (cB63, 6, .inl f64)), (a8, .inl (cB65, 6, .inl f66))]) [6, 0, 1, 2, 3, 4] rfl) (hK.sub (tys' := [(cB57, .int), (cB59, .int), (cB61, .int), (cB63, .int), (cB65, .int)]) [0, 1, 2, 3, 4] rfl) (hD.sub (ws' := [(a3, .inr (8, [g38, .int k39, g40, g41, .int k42, g43, g44, g45, g46, g47, g48, .ref a4, .ref a5, .ref a6, .ref a7, .ref a8, g49, g50, g51, g52, g53, g54, g55, g56])), (a4, .inl (cB57, 6, .inl f58)), (a5, .inl (cB59, 6, .inl f60)), (a6, .inl (cB61, 6, .inl f62)), (a7, .inl (cB63, 6, .inl f64)), (a8, .inl (cB65, 6, .inl f66))]) [6, 0, 1, 2, 3, 4] (by decide) rfl) hN 0 rfl rfl) rfl rfl hl.1 rfl (lv_room (Nat.le_of_ble_eq_true rfl)) dX12_wishOf_20 ⟨Nat.le_of_ble_eq_true rfl, Nat.le_of_ble_eq_true rfl⟩) hP hD hK hS hA [6, 0, 1, 2, 3, 4] [5] rfl rfl (by decide) (by decide) (fun z7 _u H locs hw hP hD hK hS => ?_)
  have b8 := hw
  have hP : va_P (dC, dI) vwCl [(a0, .inr (9, [g9, g10, g11, .ref a3, g12, g13, g14, g15, g16, g17, g18, g19, g20, g21, g22, g23, g24, g25, g26, g27, g28, g29, g30, g31, g32, g33, g34, g35, g36, g37])), (a3, .inr (8, [g38, .int k39, g40, g41, .int k42, g43, g44, g45, g46, g47, g48, .ref a4, .ref a5, .ref a6, .ref a7, .ref a8, g49, g50, g51, g52, g53, g54, g55, g56])), (a4, .inl (cB57, 6, .inl f58)), (a5, .inl (cB59, 6, .inl f60)), (a6, .inl (cB61, 6, .inl f62)), (a7, .inl (cB63, 6, .inl f64)), (a8, .inl (cB65, 6, .inl f66))] H := hP
  have hD : va_D A [(a0, .inr (9, [g9, g10, g11, .ref a3, g12, g13, g14, g15, g16, g17, g18, g19, g20, g21, g22, g23, g24, g25, g26, g27, g28, g29, g30, g31, g32, g33, g34, g35, g36, g37])), (a3, .inr (8, [g38, .int k39, g40, g41, .int k42, g43, g44, g45, g46, g47, g48, .ref a4, .ref a5, .ref a6, .ref a7, .ref a8, g49, g50, g51, g52, g53, g54, g55, g56])), (a4, .inl (cB57, 6, .inl f58)), (a5, .inl (cB59, 6, .inl f60)), (a6, .inl (cB61, 6, .inl f62)), (a7, .inl (cB63, 6, .inl f64)), (a8, .inl (cB65, 6, .inl f66))] := hD
  have hK : va_K (dC, dI) vwCl [(cB57, .int), (cB59, .int), (cB61, .int), (cB63, .int), (cB65, .int)] s := hK
  have hP9 := hP.sub (ws' := [(a0, .inr (9, [g9, g10, g11, .ref a3, g12, g13, g14, g15, g16, g17, g18, g19, g20, g21, g22, g23, g24, g25, g26, g27, g28, g29, g30, g31, g32, g33, g34, g35, g36, g37])), (a3, .inr (8, [g38, .int k39, g40, g41, .int k42, g43, g44, g45, g46, g47, g48, .ref a4, .ref a5, .ref a6, .ref a7, .ref a8, g49, g50, g51, g52, g53, g54, g55, g56])), (a4, .inl (cB57, 6, .inl f58)), (a5, .inl (cB59, 6, .inl f60)), (a6, .inl (cB61, 6, .inl f62)), (a7, .inl (cB63, 6, .inl f64)), (a8, .inl (cB65, 6, .inl f66))]) [0, 1, 2, 3, 4, 5, 6] rfl
  have hD9 := hD.sub (ws' := [(a0, .inr (9, [g9, g10, g11, .ref a3, g12, g13, g14, g15, g16, g17, g18, g19, g20, g21, g22, g23, g24, g25, g26, g27, g28, g29, g30, g31, g32, g33, g34, g35, g36, g37])), (a3, .inr (8, [g38, .int k39, g40, g41, .int k42, g43, g44, g45, g46, g47, g48, .ref a4, .ref a5, .ref a6, .ref a7, .ref a8, g49, g50, g51, g52, g53, g54, g55, g56])), (a4, .inl (cB57, 6, .inl f58)), (a5, .inl (cB59, 6, .inl f60)), (a6, .inl (cB61, 6, .inl f62)), (a7, .inl (cB63, 6, .inl f64)), (a8, .inl (cB65, 6, .inl f66))]) [0, 1, 2, 3, 4, 5, 6] (by decide) rfl
  have hK9 := hK.sub (tys' := []) [] rfl
  exact W.iret (v := z7) hx hb hr (fun t ht hW => ⟨⟨z7, (), rfl, (by first | trivial | omega | (simp only [ltv_0]; omega)), by rw [ht]; exact hP9, va_K.moved hW.alike hK9, hD9⟩, hS.F ht⟩) hS.2.2 dX12_wishOf_23
theorem dX12_isAnswer_0 : decode cX12_isAnswer 0 = .ok (.aload_n 0, 1) := by decide +kernel
theorem dX12_isAnswer_1 : decode cX12_isAnswer 1 = .ok (.getfield 299, 3) := by decide +kernel
theorem dX12_isAnswer_11 : decode cX12_isAnswer 11 = .ok (.iload_n 1, 1) := by decide +kernel
theorem dX12_isAnswer_12 : decode cX12_isAnswer 12 = .ok (.aload_n 0, 1) := by decide +kernel
theorem dX12_isAnswer_13 : decode cX12_isAnswer 13 = .ok (.getfield 299, 3) := by decide +kernel
theorem dX12_isAnswer_16 : decode cX12_isAnswer 16 = .ok (.getfield 231, 3) := by decide +kernel
theorem dX12_isAnswer_19 : decode cX12_isAnswer 19 = .ok (.if_icmp .ge 7, 3) := by decide +kernel
theorem dX12_isAnswer_22 : decode cX12_isAnswer 22 = .ok (.iconst 1, 1) := by decide +kernel
theorem dX12_isAnswer_23 : decode cX12_isAnswer 23 = .ok (.goto 4, 3) := by decide +kernel
theorem dX12_isAnswer_26 : decode cX12_isAnswer 26 = .ok (.iconst 0, 1) := by decide +kernel
theorem dX12_isAnswer_27 : decode cX12_isAnswer 27 = .ok (.ireturn, 1) := by decide +kernel
theorem dX12_isAnswer_4 : decode cX12_isAnswer 4 = .ok (.ifnull 22, 3) := by decide +kernel
theorem dX12_isAnswer_7 : decode cX12_isAnswer 7 = .ok (.iload_n 1, 1) := by decide +kernel
theorem dX12_isAnswer_8 : decode cX12_isAnswer 8 = .ok (.ifCond .lt 18, 3) := by decide +kernel
def vX12_isAnswer : List Cond := .code yX12_isAnswer cX12_isAnswer 2 (some .boolean) :: ([.fieldLink RX12 299 "HookPierModel" "pier" "LHookPierModel$Pier;"] ++ wsX120 ++ wsX110)
theorem iX12_isAnswer_X12 : ∀ w ∈ wsX120, w ∈ vX12_isAnswer := fun _ h => List.mem_cons_of_mem _ (List.mem_append_left _ (List.mem_append_right _ h))
theorem iX12_isAnswer_X11 : ∀ w ∈ wsX110, w ∈ vX12_isAnswer := fun _ h => List.mem_cons_of_mem _ (List.mem_append_right _ h)
set_option maxHeartbeats 2000000 in
set_option maxRecDepth 100000 in
theorem kX12_isAnswer (l : Launch) (dC : Nat → ClassId) (dI : Nat → Nat → Nat) (a0 : Nat) (k1 : Int32) (a2 : Nat) (g3 : Value) (g4 : Value) (g5 : Value) (g6 : Value) (g7 : Value) (g8 : Value) (g9 : Value) (g10 : Value) (g11 : Value) (g12 : Value) (g13 : Value) (g14 : Value) (g15 : Value) (g16 : Value) (g17 : Value) (g18 : Value) (g19 : Value) (g20 : Value) (g21 : Value) (g22 : Value) (g23 : Value) (g24 : Value) (g25 : Value) (g26 : Value) (g27 : Value) (g28 : Value) (g29 : Value) (g30 : Value) (g31 : Value) (g32 : Value) (g33 : Value) (g34 : Value) (g35 : Value) (g36 : Value) (g37 : Value) (k38 : Int32) (g39 : Value) (g40 : Value) (g41 : Value) (g42 : Value) (g43 : Value) (g44 : Value) (g45 : Value) (g46 : Value) (g47 : Value) (g48 : Value) (g49 : Value) (g50 : Value) (g51 : Value) (g52 : Value) (g53 : Value) (g54 : Value) (g55 : Value) (hk38 : (0 ≤ k38.toInt ∧ k38.toInt ≤ 6)) (sz : Nat) : Met l yX12_isAnswer vX12_isAnswer ({ frames := 0, cells := 0, slots := 0, locals := 0 }) (PC (dC, dI) [.ref a0, .int k1] sz [(a0, .inr (9, [g3, g4, g5, .ref a2, g6, g7, g8, g9, g10, g11, g12, g13, g14, g15, g16, g17, g18, g19, g20, g21, g22, g23, g24, g25, g26, g27, g28, g29, g30, g31])), (a2, .inr (8, [g32, g33, g34, g35, g36, g37, .int k38, g39, g40, g41, g42, g43, g44, g45, g46, g47, g48, g49, g50, g51, g52, g53, g54, g55]))] []) (va_Qi (S := Unit) (fun (r : Int32) _ => ((r = 0) ∨ (r = 1 ∧ (¬ (k1.toInt < 0)) ∧ (¬ (k38.toInt ≤ k1.toInt)) ∧ (0 ≤ k1.toInt ∧ k1.toInt ≤ 5) ∧ (1 ≤ k38.toInt ∧ k38.toInt ≤ 6)))) (fun _ t => BC (dC, dI) (va_A [(a0, .inr (9, [g3, g4, g5, .ref a2, g6, g7, g8, g9, g10, g11, g12, g13, g14, g15, g16, g17, g18, g19, g20, g21, g22, g23, g24, g25, g26, g27, g28, g29, g30, g31])), (a2, .inr (8, [g32, g33, g34, g35, g36, g37, .int k38, g39, g40, g41, g42, g43, g44, g45, g46, g47, g48, g49, g50, g51, g52, g53, g54, g55]))] sz) [(a0, .inr (9, [g3, g4, g5, .ref a2, g6, g7, g8, g9, g10, g11, g12, g13, g14, g15, g16, g17, g18, g19, g20, g21, g22, g23, g24, g25, g26, g27, g28, g29, g30, g31])), (a2, .inr (8, [g32, g33, g34, g35, g36, g37, .int k38, g39, g40, g41, g42, g43, g44, g45, g46, g47, g48, g49, g50, g51, g52, g53, g54, g55]))] [] t) (va_A [(a0, .inr (9, [g3, g4, g5, .ref a2, g6, g7, g8, g9, g10, g11, g12, g13, g14, g15, g16, g17, g18, g19, g20, g21, g22, g23, g24, g25, g26, g27, g28, g29, g30, g31])), (a2, .inr (8, [g32, g33, g34, g35, g36, g37, .int k38, g39, g40, g41, g42, g43, g44, g45, g46, g47, g48, g49, g50, g51, g52, g53, g54, g55]))] sz)) 0 0 (va_A [(a0, .inr (9, [g3, g4, g5, .ref a2, g6, g7, g8, g9, g10, g11, g12, g13, g14, g15, g16, g17, g18, g19, g20, g21, g22, g23, g24, g25, g26, g27, g28, g29, g30, g31])), (a2, .inr (8, [g32, g33, g34, g35, g36, g37, .int k38, g39, g40, g41, g42, g43, g44, g45, g46, g47, g48, g49, g50, g51, g52, g53, g54, g55]))] sz) := by
  refine Met.ofW (cc := cX12_isAnswer) (maxL := 2) (ret := (some .boolean)) (by decide) rfl ?_
  intro p e s m args below meth c s₁ B hml hv
  obtain ⟨rfl, hsz, hP, hK, hD0, hN⟩ := hv
  have hx := B.exec
  have hb := B.bytes
  have hr := B.returns
  have hts := atoms_spec (ws := vX12_isAnswer) B.pre
  have hown : s.vm.findClass RX12 = some m.cls := findClass_of_methodNamed B.named
  have hlocks := B.notSynchronized
  subst hsz
  have hD := hD0.self (sz := s.heap.size)
  generalize hAe : va_A [(a0, .inr (9, [g3, g4, g5, .ref a2, g6, g7, g8, g9, g10, g11, g12, g13, g14, g15, g16, g17, g18, g19, g20, g21, g22, g23, g24, g25, g26, g27, g28, g29, g30, g31])), (a2, .inr (8, [g32, g33, g34, g35, g36, g37, .int k38, g39, g40, g41, g42, g43, g44, g45, g46, g47, g48, g49, g50, g51, g52, g53, g54, g55]))] s.heap.size = A at hD ⊢
  have hA : ∀ q : Nat, s.heap.size ≤ q → A q := fun q h => by rw [← hAe]; exact Or.inr h
  have hS : va_S A s.heap s.heap [] := va_S.rf
  have hP : va_P (dC, dI) vwCl [(a0, .inr (9, [g3, g4, g5, .ref a2, g6, g7, g8, g9, g10, g11, g12, g13, g14, g15, g16, g17, g18, g19, g20, g21, g22, g23, g24, g25, g26, g27, g28, g29, g30, g31])), (a2, .inr (8, [g32, g33, g34, g35, g36, g37, .int k38, g39, g40, g41, g42, g43, g44, g45, g46, g47, g48, g49, g50, g51, g52, g53, g54, g55]))] s.heap := hP
  have hl := lv_entry ([.ref a0, .int k1]) (n := 2) (Nat.le_of_ble_eq_true rfl)
  rw [lg_entry_eq]
  generalize (lg_sl ([.ref a0, .int k1]) ++ List.replicate (2 - (lg_sl ([.ref a0, .int k1])).length) Slot.unset).toArray = ls at hl ⊢
  have hl : lv_has ls 2 [(0, .ref a0), (1, .int k1)] := hl
  refine lv_aload_n hx hb dX12_isAnswer_0 rfl (lv_at hl 0 rfl) ?_
  refine va_get (D := (dC, dI)) (ci := 9) (v := .ref a2) (C := RX12) (T := TX12) (N := 30) hx hb hts iX12_isAnswer_X12 hown hK hP 0 rfl rfl 3 (by decide) (hts (.fieldLink RX12 299 "HookPierModel" "pier" "LHookPierModel$Pier;") (List.mem_of_getElem? (i := 1) rfl)) (fun _ h9 => h9) rfl dX12_isAnswer_1 ?_
  refine lv_ifnull hx hb dX12_isAnswer_4 ?_
  refine lv_iload_n hx hb dX12_isAnswer_7 rfl (lv_at hl 1 rfl) ?_
  refine lv_if_lt (tgt := 26) hx hb dX12_isAnswer_8 (by decide) (fun c1 => ?_) (fun c1 => ?_)
  · simp only [fa_lt, fa_le, fa_eq, ltv_0] at c1
    refine lv_iconst (v := 0) hx hb dX12_isAnswer_26 (by decide) ?_
    have hP9 := hP.sub (ws' := [(a0, .inr (9, [g3, g4, g5, .ref a2, g6, g7, g8, g9, g10, g11, g12, g13, g14, g15, g16, g17, g18, g19, g20, g21, g22, g23, g24, g25, g26, g27, g28, g29, g30, g31])), (a2, .inr (8, [g32, g33, g34, g35, g36, g37, .int k38, g39, g40, g41, g42, g43, g44, g45, g46, g47, g48, g49, g50, g51, g52, g53, g54, g55]))]) [0, 1] rfl
    have hD9 := hD.sub (ws' := [(a0, .inr (9, [g3, g4, g5, .ref a2, g6, g7, g8, g9, g10, g11, g12, g13, g14, g15, g16, g17, g18, g19, g20, g21, g22, g23, g24, g25, g26, g27, g28, g29, g30, g31])), (a2, .inr (8, [g32, g33, g34, g35, g36, g37, .int k38, g39, g40, g41, g42, g43, g44, g45, g46, g47, g48, g49, g50, g51, g52, g53, g54, g55]))]) [0, 1] (by decide) rfl
    have hK9 := hK.sub (tys' := []) [] rfl
    exact W.zret (v := 0) hx hb hr rfl (fun t ht hW => ⟨⟨0, (), rfl, (Or.inl rfl), by rw [ht]; exact hP9, va_K.moved hW.alike hK9, hD9⟩, hS.F ht⟩) hS.2.2 dX12_isAnswer_27
  · simp only [fa_lt, fa_le, fa_eq, ltv_0] at c1
    refine lv_iload_n hx hb dX12_isAnswer_11 rfl (lv_at hl 1 rfl) ?_
    refine lv_aload_n hx hb dX12_isAnswer_12 rfl (lv_at hl 0 rfl) ?_
    refine va_get (D := (dC, dI)) (ci := 9) (v := .ref a2) (C := RX12) (T := TX12) (N := 30) hx hb hts iX12_isAnswer_X12 hown hK hP 0 rfl rfl 3 (by decide) (hts (.fieldLink RX12 299 "HookPierModel" "pier" "LHookPierModel$Pier;") (List.mem_of_getElem? (i := 1) rfl)) (fun _ h9 => h9) rfl dX12_isAnswer_13 ?_
    refine va_getN (D := (dC, dI)) (ci := 8) (v := .int k38) (C := RX11) (T := TX11) (N := 24) hx hb hts iX12_isAnswer_X11 hown hK hP 1 rfl rfl 6 (by decide) (va_Nw.use rfl (hN.1 (.fieldLinkNest RX12 231 "HookPierModel$Pier" "answers" "I" "HookPierModel") (List.mem_of_getElem? (i := 28) rfl))) (fun _ h9 => h9) rfl dX12_isAnswer_16 ?_
    refine lv_icmp_ge (tgt := 26) hx hb dX12_isAnswer_19 (by decide) (fun c2 => ?_) (fun c2 => ?_)
    · simp only [fa_lt, fa_le, fa_eq, ltv_0] at c2
      refine lv_iconst (v := 0) hx hb dX12_isAnswer_26 (by decide) ?_
      have hP9 := hP.sub (ws' := [(a0, .inr (9, [g3, g4, g5, .ref a2, g6, g7, g8, g9, g10, g11, g12, g13, g14, g15, g16, g17, g18, g19, g20, g21, g22, g23, g24, g25, g26, g27, g28, g29, g30, g31])), (a2, .inr (8, [g32, g33, g34, g35, g36, g37, .int k38, g39, g40, g41, g42, g43, g44, g45, g46, g47, g48, g49, g50, g51, g52, g53, g54, g55]))]) [0, 1] rfl
      have hD9 := hD.sub (ws' := [(a0, .inr (9, [g3, g4, g5, .ref a2, g6, g7, g8, g9, g10, g11, g12, g13, g14, g15, g16, g17, g18, g19, g20, g21, g22, g23, g24, g25, g26, g27, g28, g29, g30, g31])), (a2, .inr (8, [g32, g33, g34, g35, g36, g37, .int k38, g39, g40, g41, g42, g43, g44, g45, g46, g47, g48, g49, g50, g51, g52, g53, g54, g55]))]) [0, 1] (by decide) rfl
      have hK9 := hK.sub (tys' := []) [] rfl
      exact W.zret (v := 0) hx hb hr rfl (fun t ht hW => ⟨⟨0, (), rfl, (Or.inl rfl), by rw [ht]; exact hP9, va_K.moved hW.alike hK9, hD9⟩, hS.F ht⟩) hS.2.2 dX12_isAnswer_27
    · simp only [fa_lt, fa_le, fa_eq, ltv_0] at c2
      refine lv_iconst (v := 1) hx hb dX12_isAnswer_22 (by decide) ?_
      refine lv_goto (tgt := 27) hx hb dX12_isAnswer_23 (by decide) ?_
      have hP9 := hP.sub (ws' := [(a0, .inr (9, [g3, g4, g5, .ref a2, g6, g7, g8, g9, g10, g11, g12, g13, g14, g15, g16, g17, g18, g19, g20, g21, g22, g23, g24, g25, g26, g27, g28, g29, g30, g31])), (a2, .inr (8, [g32, g33, g34, g35, g36, g37, .int k38, g39, g40, g41, g42, g43, g44, g45, g46, g47, g48, g49, g50, g51, g52, g53, g54, g55]))]) [0, 1] rfl
      have hD9 := hD.sub (ws' := [(a0, .inr (9, [g3, g4, g5, .ref a2, g6, g7, g8, g9, g10, g11, g12, g13, g14, g15, g16, g17, g18, g19, g20, g21, g22, g23, g24, g25, g26, g27, g28, g29, g30, g31])), (a2, .inr (8, [g32, g33, g34, g35, g36, g37, .int k38, g39, g40, g41, g42, g43, g44, g45, g46, g47, g48, g49, g50, g51, g52, g53, g54, g55]))]) [0, 1] (by decide) rfl
      have hK9 := hK.sub (tys' := []) [] rfl
      exact W.zret (v := 1) hx hb hr rfl (fun t ht hW => ⟨⟨1, (), rfl, (Or.inr ⟨rfl, (by first | trivial | omega | (simp only [ltv_0, ltv_1]; omega)), (by first | trivial | omega | (simp only [ltv_0, ltv_1]; omega)), (by first | trivial | omega | (simp only [ltv_0, ltv_1]; omega)), (by first | trivial | omega | (simp only [ltv_0, ltv_1]; omega))⟩), by rw [ht]; exact hP9, va_K.moved hW.alike hK9, hD9⟩, hS.F ht⟩) hS.2.2 dX12_isAnswer_27
theorem dX12_isAsker_0 : decode cX12_isAsker 0 = .ok (.aload_n 0, 1) := by decide +kernel
theorem dX12_isAsker_1 : decode cX12_isAsker 1 = .ok (.getfield 299, 3) := by decide +kernel
theorem dX12_isAsker_11 : decode cX12_isAsker 11 = .ok (.iload_n 1, 1) := by decide +kernel
theorem dX12_isAsker_12 : decode cX12_isAsker 12 = .ok (.aload_n 0, 1) := by decide +kernel
theorem dX12_isAsker_13 : decode cX12_isAsker 13 = .ok (.getfield 299, 3) := by decide +kernel
theorem dX12_isAsker_16 : decode cX12_isAsker 16 = .ok (.getfield 224, 3) := by decide +kernel
theorem dX12_isAsker_19 : decode cX12_isAsker 19 = .ok (.if_icmp .ge 7, 3) := by decide +kernel
theorem dX12_isAsker_22 : decode cX12_isAsker 22 = .ok (.iconst 1, 1) := by decide +kernel
theorem dX12_isAsker_23 : decode cX12_isAsker 23 = .ok (.goto 4, 3) := by decide +kernel
theorem dX12_isAsker_26 : decode cX12_isAsker 26 = .ok (.iconst 0, 1) := by decide +kernel
theorem dX12_isAsker_27 : decode cX12_isAsker 27 = .ok (.ireturn, 1) := by decide +kernel
theorem dX12_isAsker_4 : decode cX12_isAsker 4 = .ok (.ifnull 22, 3) := by decide +kernel
theorem dX12_isAsker_7 : decode cX12_isAsker 7 = .ok (.iload_n 1, 1) := by decide +kernel
theorem dX12_isAsker_8 : decode cX12_isAsker 8 = .ok (.ifCond .lt 18, 3) := by decide +kernel
def vX12_isAsker : List Cond := .code yX12_isAsker cX12_isAsker 2 (some .boolean) :: ([.fieldLink RX12 299 "HookPierModel" "pier" "LHookPierModel$Pier;"] ++ wsX120 ++ wsX110)
theorem iX12_isAsker_X12 : ∀ w ∈ wsX120, w ∈ vX12_isAsker := fun _ h => List.mem_cons_of_mem _ (List.mem_append_left _ (List.mem_append_right _ h))
theorem iX12_isAsker_X11 : ∀ w ∈ wsX110, w ∈ vX12_isAsker := fun _ h => List.mem_cons_of_mem _ (List.mem_append_right _ h)
set_option maxHeartbeats 2000000 in
set_option maxRecDepth 100000 in
theorem kX12_isAsker (l : Launch) (dC : Nat → ClassId) (dI : Nat → Nat → Nat) (a0 : Nat) (k1 : Int32) (a2 : Nat) (g3 : Value) (g4 : Value) (g5 : Value) (g6 : Value) (g7 : Value) (g8 : Value) (g9 : Value) (g10 : Value) (g11 : Value) (g12 : Value) (g13 : Value) (g14 : Value) (g15 : Value) (g16 : Value) (g17 : Value) (g18 : Value) (g19 : Value) (g20 : Value) (g21 : Value) (g22 : Value) (g23 : Value) (g24 : Value) (g25 : Value) (g26 : Value) (g27 : Value) (g28 : Value) (g29 : Value) (g30 : Value) (g31 : Value) (g32 : Value) (g33 : Value) (g34 : Value) (g35 : Value) (g36 : Value) (k37 : Int32) (g38 : Value) (g39 : Value) (g40 : Value) (g41 : Value) (g42 : Value) (g43 : Value) (g44 : Value) (g45 : Value) (g46 : Value) (g47 : Value) (g48 : Value) (g49 : Value) (g50 : Value) (g51 : Value) (g52 : Value) (g53 : Value) (g54 : Value) (g55 : Value) (hk37 : (0 ≤ k37.toInt ∧ k37.toInt ≤ 5)) (sz : Nat) : Met l yX12_isAsker vX12_isAsker ({ frames := 0, cells := 0, slots := 0, locals := 0 }) (PC (dC, dI) [.ref a0, .int k1] sz [(a0, .inr (9, [g3, g4, g5, .ref a2, g6, g7, g8, g9, g10, g11, g12, g13, g14, g15, g16, g17, g18, g19, g20, g21, g22, g23, g24, g25, g26, g27, g28, g29, g30, g31])), (a2, .inr (8, [g32, g33, g34, g35, g36, .int k37, g38, g39, g40, g41, g42, g43, g44, g45, g46, g47, g48, g49, g50, g51, g52, g53, g54, g55]))] []) (va_Qi (S := Unit) (fun (r : Int32) _ => ((r = 0) ∨ (r = 1 ∧ (¬ (k1.toInt < 0)) ∧ (¬ (k37.toInt ≤ k1.toInt)) ∧ (0 ≤ k1.toInt ∧ k1.toInt ≤ 4) ∧ (1 ≤ k37.toInt ∧ k37.toInt ≤ 5)))) (fun _ t => BC (dC, dI) (va_A [(a0, .inr (9, [g3, g4, g5, .ref a2, g6, g7, g8, g9, g10, g11, g12, g13, g14, g15, g16, g17, g18, g19, g20, g21, g22, g23, g24, g25, g26, g27, g28, g29, g30, g31])), (a2, .inr (8, [g32, g33, g34, g35, g36, .int k37, g38, g39, g40, g41, g42, g43, g44, g45, g46, g47, g48, g49, g50, g51, g52, g53, g54, g55]))] sz) [(a0, .inr (9, [g3, g4, g5, .ref a2, g6, g7, g8, g9, g10, g11, g12, g13, g14, g15, g16, g17, g18, g19, g20, g21, g22, g23, g24, g25, g26, g27, g28, g29, g30, g31])), (a2, .inr (8, [g32, g33, g34, g35, g36, .int k37, g38, g39, g40, g41, g42, g43, g44, g45, g46, g47, g48, g49, g50, g51, g52, g53, g54, g55]))] [] t) (va_A [(a0, .inr (9, [g3, g4, g5, .ref a2, g6, g7, g8, g9, g10, g11, g12, g13, g14, g15, g16, g17, g18, g19, g20, g21, g22, g23, g24, g25, g26, g27, g28, g29, g30, g31])), (a2, .inr (8, [g32, g33, g34, g35, g36, .int k37, g38, g39, g40, g41, g42, g43, g44, g45, g46, g47, g48, g49, g50, g51, g52, g53, g54, g55]))] sz)) 0 0 (va_A [(a0, .inr (9, [g3, g4, g5, .ref a2, g6, g7, g8, g9, g10, g11, g12, g13, g14, g15, g16, g17, g18, g19, g20, g21, g22, g23, g24, g25, g26, g27, g28, g29, g30, g31])), (a2, .inr (8, [g32, g33, g34, g35, g36, .int k37, g38, g39, g40, g41, g42, g43, g44, g45, g46, g47, g48, g49, g50, g51, g52, g53, g54, g55]))] sz) := by
  refine Met.ofW (cc := cX12_isAsker) (maxL := 2) (ret := (some .boolean)) (by decide) rfl ?_
  intro p e s m args below meth c s₁ B hml hv
  obtain ⟨rfl, hsz, hP, hK, hD0, hN⟩ := hv
  have hx := B.exec
  have hb := B.bytes
  have hr := B.returns
  have hts := atoms_spec (ws := vX12_isAsker) B.pre
  have hown : s.vm.findClass RX12 = some m.cls := findClass_of_methodNamed B.named
  have hlocks := B.notSynchronized
  subst hsz
  have hD := hD0.self (sz := s.heap.size)
  generalize hAe : va_A [(a0, .inr (9, [g3, g4, g5, .ref a2, g6, g7, g8, g9, g10, g11, g12, g13, g14, g15, g16, g17, g18, g19, g20, g21, g22, g23, g24, g25, g26, g27, g28, g29, g30, g31])), (a2, .inr (8, [g32, g33, g34, g35, g36, .int k37, g38, g39, g40, g41, g42, g43, g44, g45, g46, g47, g48, g49, g50, g51, g52, g53, g54, g55]))] s.heap.size = A at hD ⊢
  have hA : ∀ q : Nat, s.heap.size ≤ q → A q := fun q h => by rw [← hAe]; exact Or.inr h
  have hS : va_S A s.heap s.heap [] := va_S.rf
  have hP : va_P (dC, dI) vwCl [(a0, .inr (9, [g3, g4, g5, .ref a2, g6, g7, g8, g9, g10, g11, g12, g13, g14, g15, g16, g17, g18, g19, g20, g21, g22, g23, g24, g25, g26, g27, g28, g29, g30, g31])), (a2, .inr (8, [g32, g33, g34, g35, g36, .int k37, g38, g39, g40, g41, g42, g43, g44, g45, g46, g47, g48, g49, g50, g51, g52, g53, g54, g55]))] s.heap := hP
  have hl := lv_entry ([.ref a0, .int k1]) (n := 2) (Nat.le_of_ble_eq_true rfl)
  rw [lg_entry_eq]
  generalize (lg_sl ([.ref a0, .int k1]) ++ List.replicate (2 - (lg_sl ([.ref a0, .int k1])).length) Slot.unset).toArray = ls at hl ⊢
  have hl : lv_has ls 2 [(0, .ref a0), (1, .int k1)] := hl
  refine lv_aload_n hx hb dX12_isAsker_0 rfl (lv_at hl 0 rfl) ?_
  refine va_get (D := (dC, dI)) (ci := 9) (v := .ref a2) (C := RX12) (T := TX12) (N := 30) hx hb hts iX12_isAsker_X12 hown hK hP 0 rfl rfl 3 (by decide) (hts (.fieldLink RX12 299 "HookPierModel" "pier" "LHookPierModel$Pier;") (List.mem_of_getElem? (i := 1) rfl)) (fun _ h9 => h9) rfl dX12_isAsker_1 ?_
  refine lv_ifnull hx hb dX12_isAsker_4 ?_
  refine lv_iload_n hx hb dX12_isAsker_7 rfl (lv_at hl 1 rfl) ?_
  refine lv_if_lt (tgt := 26) hx hb dX12_isAsker_8 (by decide) (fun c1 => ?_) (fun c1 => ?_)
  · simp only [fa_lt, fa_le, fa_eq, ltv_0] at c1
    refine lv_iconst (v := 0) hx hb dX12_isAsker_26 (by decide) ?_
    have hP9 := hP.sub (ws' := [(a0, .inr (9, [g3, g4, g5, .ref a2, g6, g7, g8, g9, g10, g11, g12, g13, g14, g15, g16, g17, g18, g19, g20, g21, g22, g23, g24, g25, g26, g27, g28, g29, g30, g31])), (a2, .inr (8, [g32, g33, g34, g35, g36, .int k37, g38, g39, g40, g41, g42, g43, g44, g45, g46, g47, g48, g49, g50, g51, g52, g53, g54, g55]))]) [0, 1] rfl
    have hD9 := hD.sub (ws' := [(a0, .inr (9, [g3, g4, g5, .ref a2, g6, g7, g8, g9, g10, g11, g12, g13, g14, g15, g16, g17, g18, g19, g20, g21, g22, g23, g24, g25, g26, g27, g28, g29, g30, g31])), (a2, .inr (8, [g32, g33, g34, g35, g36, .int k37, g38, g39, g40, g41, g42, g43, g44, g45, g46, g47, g48, g49, g50, g51, g52, g53, g54, g55]))]) [0, 1] (by decide) rfl
    have hK9 := hK.sub (tys' := []) [] rfl
    exact W.zret (v := 0) hx hb hr rfl (fun t ht hW => ⟨⟨0, (), rfl, (Or.inl rfl), by rw [ht]; exact hP9, va_K.moved hW.alike hK9, hD9⟩, hS.F ht⟩) hS.2.2 dX12_isAsker_27
  · simp only [fa_lt, fa_le, fa_eq, ltv_0] at c1
    refine lv_iload_n hx hb dX12_isAsker_11 rfl (lv_at hl 1 rfl) ?_
    refine lv_aload_n hx hb dX12_isAsker_12 rfl (lv_at hl 0 rfl) ?_
    refine va_get (D := (dC, dI)) (ci := 9) (v := .ref a2) (C := RX12) (T := TX12) (N := 30) hx hb hts iX12_isAsker_X12 hown hK hP 0 rfl rfl 3 (by decide) (hts (.fieldLink RX12 299 "HookPierModel" "pier" "LHookPierModel$Pier;") (List.mem_of_getElem? (i := 1) rfl)) (fun _ h9 => h9) rfl dX12_isAsker_13 ?_
    refine va_getN (D := (dC, dI)) (ci := 8) (v := .int k37) (C := RX11) (T := TX11) (N := 24) hx hb hts iX12_isAsker_X11 hown hK hP 1 rfl rfl 5 (by decide) (va_Nw.use rfl (hN.1 (.fieldLinkNest RX12 224 "HookPierModel$Pier" "askers" "I" "HookPierModel") (List.mem_of_getElem? (i := 27) rfl))) (fun _ h9 => h9) rfl dX12_isAsker_16 ?_
    refine lv_icmp_ge (tgt := 26) hx hb dX12_isAsker_19 (by decide) (fun c2 => ?_) (fun c2 => ?_)
    · simp only [fa_lt, fa_le, fa_eq, ltv_0] at c2
      refine lv_iconst (v := 0) hx hb dX12_isAsker_26 (by decide) ?_
      have hP9 := hP.sub (ws' := [(a0, .inr (9, [g3, g4, g5, .ref a2, g6, g7, g8, g9, g10, g11, g12, g13, g14, g15, g16, g17, g18, g19, g20, g21, g22, g23, g24, g25, g26, g27, g28, g29, g30, g31])), (a2, .inr (8, [g32, g33, g34, g35, g36, .int k37, g38, g39, g40, g41, g42, g43, g44, g45, g46, g47, g48, g49, g50, g51, g52, g53, g54, g55]))]) [0, 1] rfl
      have hD9 := hD.sub (ws' := [(a0, .inr (9, [g3, g4, g5, .ref a2, g6, g7, g8, g9, g10, g11, g12, g13, g14, g15, g16, g17, g18, g19, g20, g21, g22, g23, g24, g25, g26, g27, g28, g29, g30, g31])), (a2, .inr (8, [g32, g33, g34, g35, g36, .int k37, g38, g39, g40, g41, g42, g43, g44, g45, g46, g47, g48, g49, g50, g51, g52, g53, g54, g55]))]) [0, 1] (by decide) rfl
      have hK9 := hK.sub (tys' := []) [] rfl
      exact W.zret (v := 0) hx hb hr rfl (fun t ht hW => ⟨⟨0, (), rfl, (Or.inl rfl), by rw [ht]; exact hP9, va_K.moved hW.alike hK9, hD9⟩, hS.F ht⟩) hS.2.2 dX12_isAsker_27
    · simp only [fa_lt, fa_le, fa_eq, ltv_0] at c2
      refine lv_iconst (v := 1) hx hb dX12_isAsker_22 (by decide) ?_
      refine lv_goto (tgt := 27) hx hb dX12_isAsker_23 (by decide) ?_
      have hP9 := hP.sub (ws' := [(a0, .inr (9, [g3, g4, g5, .ref a2, g6, g7, g8, g9, g10, g11, g12, g13, g14, g15, g16, g17, g18, g19, g20, g21, g22, g23, g24, g25, g26, g27, g28, g29, g30, g31])), (a2, .inr (8, [g32, g33, g34, g35, g36, .int k37, g38, g39, g40, g41, g42, g43, g44, g45, g46, g47, g48, g49, g50, g51, g52, g53, g54, g55]))]) [0, 1] rfl
      have hD9 := hD.sub (ws' := [(a0, .inr (9, [g3, g4, g5, .ref a2, g6, g7, g8, g9, g10, g11, g12, g13, g14, g15, g16, g17, g18, g19, g20, g21, g22, g23, g24, g25, g26, g27, g28, g29, g30, g31])), (a2, .inr (8, [g32, g33, g34, g35, g36, .int k37, g38, g39, g40, g41, g42, g43, g44, g45, g46, g47, g48, g49, g50, g51, g52, g53, g54, g55]))]) [0, 1] (by decide) rfl
      have hK9 := hK.sub (tys' := []) [] rfl
      exact W.zret (v := 1) hx hb hr rfl (fun t ht hW => ⟨⟨1, (), rfl, (Or.inr ⟨rfl, (by first | trivial | omega | (simp only [ltv_0, ltv_1]; omega)), (by first | trivial | omega | (simp only [ltv_0, ltv_1]; omega)), (by first | trivial | omega | (simp only [ltv_0, ltv_1]; omega)), (by first | trivial | omega | (simp only [ltv_0, ltv_1]; omega))⟩), by rw [ht]; exact hP9, va_K.moved hW.alike hK9, hD9⟩, hS.F ht⟩) hS.2.2 dX12_isAsker_27
theorem dX12_refusesQuestion_0 : decode cX12_refusesQuestion 0 = .ok (.iload_n 1, 1) := by decide +kernel
theorem dX12_refusesQuestion_1 : decode cX12_refusesQuestion 1 = .ok (.ifCond .eq 38, 3) := by decide +kernel
theorem dX12_refusesQuestion_10 : decode cX12_refusesQuestion 10 = .ok (.getfield 143, 3) := by decide +kernel
theorem dX12_refusesQuestion_13 : decode cX12_refusesQuestion 13 = .ok (.iconst 1, 1) := by decide +kernel
theorem dX12_refusesQuestion_14 : decode cX12_refusesQuestion 14 = .ok (.isub, 1) := by decide +kernel
theorem dX12_refusesQuestion_15 : decode cX12_refusesQuestion 15 = .ok (.invokestatic 115, 3) := by decide +kernel
theorem dX12_refusesQuestion_18 : decode cX12_refusesQuestion 18 = .ok (.ifCond .eq 21, 3) := by decide +kernel
theorem dX12_refusesQuestion_21 : decode cX12_refusesQuestion 21 = .ok (.iload 4, 2) := by decide +kernel
theorem dX12_refusesQuestion_23 : decode cX12_refusesQuestion 23 = .ok (.iconst 0, 1) := by decide +kernel
theorem dX12_refusesQuestion_24 : decode cX12_refusesQuestion 24 = .ok (.aload_n 0, 1) := by decide +kernel
theorem dX12_refusesQuestion_25 : decode cX12_refusesQuestion 25 = .ok (.getfield 299, 3) := by decide +kernel
theorem dX12_refusesQuestion_28 : decode cX12_refusesQuestion 28 = .ok (.getfield 175, 3) := by decide +kernel
theorem dX12_refusesQuestion_31 : decode cX12_refusesQuestion 31 = .ok (.iconst 1, 1) := by decide +kernel
theorem dX12_refusesQuestion_32 : decode cX12_refusesQuestion 32 = .ok (.isub, 1) := by decide +kernel
theorem dX12_refusesQuestion_33 : decode cX12_refusesQuestion 33 = .ok (.invokestatic 115, 3) := by decide +kernel
theorem dX12_refusesQuestion_36 : decode cX12_refusesQuestion 36 = .ok (.ifCond .ne 5, 3) := by decide +kernel
theorem dX12_refusesQuestion_39 : decode cX12_refusesQuestion 39 = .ok (.iconst 1, 1) := by decide +kernel
theorem dX12_refusesQuestion_4 : decode cX12_refusesQuestion 4 = .ok (.iload_n 2, 1) := by decide +kernel
theorem dX12_refusesQuestion_40 : decode cX12_refusesQuestion 40 = .ok (.ireturn, 1) := by decide +kernel
theorem dX12_refusesQuestion_41 : decode cX12_refusesQuestion 41 = .ok (.iload_n 3, 1) := by decide +kernel
theorem dX12_refusesQuestion_42 : decode cX12_refusesQuestion 42 = .ok (.iconst 1, 1) := by decide +kernel
theorem dX12_refusesQuestion_43 : decode cX12_refusesQuestion 43 = .ok (.aload_n 0, 1) := by decide +kernel
theorem dX12_refusesQuestion_44 : decode cX12_refusesQuestion 44 = .ok (.getfield 299, 3) := by decide +kernel
theorem dX12_refusesQuestion_47 : decode cX12_refusesQuestion 47 = .ok (.getfield 207, 3) := by decide +kernel
theorem dX12_refusesQuestion_5 : decode cX12_refusesQuestion 5 = .ok (.iconst 0, 1) := by decide +kernel
theorem dX12_refusesQuestion_50 : decode cX12_refusesQuestion 50 = .ok (.invokestatic 115, 3) := by decide +kernel
theorem dX12_refusesQuestion_53 : decode cX12_refusesQuestion 53 = .ok (.ifCond .eq 7, 3) := by decide +kernel
theorem dX12_refusesQuestion_56 : decode cX12_refusesQuestion 56 = .ok (.iconst 0, 1) := by decide +kernel
theorem dX12_refusesQuestion_57 : decode cX12_refusesQuestion 57 = .ok (.goto 4, 3) := by decide +kernel
theorem dX12_refusesQuestion_6 : decode cX12_refusesQuestion 6 = .ok (.aload_n 0, 1) := by decide +kernel
theorem dX12_refusesQuestion_60 : decode cX12_refusesQuestion 60 = .ok (.iconst 2, 1) := by decide +kernel
theorem dX12_refusesQuestion_61 : decode cX12_refusesQuestion 61 = .ok (.ireturn, 1) := by decide +kernel
theorem dX12_refusesQuestion_7 : decode cX12_refusesQuestion 7 = .ok (.getfield 299, 3) := by decide +kernel
def vX12_refusesQuestion : List Cond := .code yX12_refusesQuestion cX12_refusesQuestion 5 (some .int) :: ([.fieldLink RX12 299 "HookPierModel" "pier" "LHookPierModel$Pier;", .methodLink RX12 115 yX12_in, .static yX12_in, .initialized RX12, .code yX12_in cX12_in 3 (some .boolean)] ++ wsX120 ++ wsX110)
theorem iX12_refusesQuestion_X12 : ∀ w ∈ wsX120, w ∈ vX12_refusesQuestion := fun _ h => List.mem_cons_of_mem _ (List.mem_append_left _ (List.mem_append_right _ h))
theorem iX12_refusesQuestion_X11 : ∀ w ∈ wsX110, w ∈ vX12_refusesQuestion := fun _ h => List.mem_cons_of_mem _ (List.mem_append_right _ h)
set_option maxRecDepth 20000 in
theorem gX12_refusesQuestion_0 : GoodIn vX12_refusesQuestion (va_wsS RX12 115 yX12_in vX12_in) := goodIn_app (goodIn_r [.methodLink RX12 115 yX12_in, .static yX12_in, .initialized RX12] [2, 3, 4] (by decide +kernel) (by decide +kernel)) (goodIn_r (.code yX12_in cX12_in 3 (some .boolean) :: []) [5] (by decide +kernel) (by decide +kernel) : GoodIn vX12_refusesQuestion (.code yX12_in cX12_in 3 (some .boolean) :: []))
set_option maxHeartbeats 2000000 in
set_option maxRecDepth 100000 in
theorem kX12_refusesQuestion (l : Launch) (dC : Nat → ClassId) (dI : Nat → Nat → Nat) (a0 : Nat) (k1 : Int32) (k2 : Int32) (k3 : Int32) (k4 : Int32) (a5 : Nat) (g6 : Value) (g7 : Value) (g8 : Value) (g9 : Value) (g10 : Value) (g11 : Value) (g12 : Value) (g13 : Value) (g14 : Value) (g15 : Value) (g16 : Value) (g17 : Value) (g18 : Value) (g19 : Value) (g20 : Value) (g21 : Value) (g22 : Value) (g23 : Value) (g24 : Value) (g25 : Value) (g26 : Value) (g27 : Value) (g28 : Value) (g29 : Value) (g30 : Value) (g31 : Value) (g32 : Value) (g33 : Value) (g34 : Value) (k35 : Int32) (k36 : Int32) (g37 : Value) (g38 : Value) (k39 : Int32) (g40 : Value) (g41 : Value) (g42 : Value) (g43 : Value) (g44 : Value) (g45 : Value) (g46 : Value) (g47 : Value) (g48 : Value) (g49 : Value) (g50 : Value) (g51 : Value) (g52 : Value) (g53 : Value) (g54 : Value) (g55 : Value) (g56 : Value) (g57 : Value) (g58 : Value) (hk35 : (2 ≤ k35.toInt ∧ k35.toInt ≤ 8)) (hk36 : (1 ≤ k36.toInt ∧ k36.toInt ≤ 9)) (hk39 : (1 ≤ k39.toInt ∧ k39.toInt ≤ 4)) (sz : Nat) : Met l yX12_refusesQuestion vX12_refusesQuestion ({ frames := 1, cells := 0, slots := 0, locals := 22 }) (PC (dC, dI) [.ref a0, .int k1, .int k2, .int k3, .int k4] sz [(a0, .inr (9, [g6, g7, g8, .ref a5, g9, g10, g11, g12, g13, g14, g15, g16, g17, g18, g19, g20, g21, g22, g23, g24, g25, g26, g27, g28, g29, g30, g31, g32, g33, g34])), (a5, .inr (8, [.int k35, .int k36, g37, g38, .int k39, g40, g41, g42, g43, g44, g45, g46, g47, g48, g49, g50, g51, g52, g53, g54, g55, g56, g57, g58]))] []) (va_Qi (S := Unit) (fun (r : Int32) _ => ((r = 0 ∧ (¬ (k1.toInt = 0)) ∧ (¬ (k2.toInt < 0)) ∧ (¬ (k4.toInt < 0)) ∧ (¬ (k3.toInt < 1)) ∧ (¬ (k36.toInt < k3.toInt)) ∧ (0 ≤ k2.toInt ∧ k2.toInt ≤ 7) ∧ (1 ≤ k3.toInt ∧ k3.toInt ≤ 9) ∧ (0 ≤ k4.toInt ∧ k4.toInt ≤ 3)) ∨ (r = 1) ∨ (r = 2 ∧ (¬ (k1.toInt = 0)) ∧ (¬ (k2.toInt < 0)) ∧ (¬ (k4.toInt < 0)) ∧ (0 ≤ k2.toInt ∧ k2.toInt ≤ 7) ∧ (0 ≤ k4.toInt ∧ k4.toInt ≤ 3)))) (fun _ t => BC (dC, dI) (va_A [(a0, .inr (9, [g6, g7, g8, .ref a5, g9, g10, g11, g12, g13, g14, g15, g16, g17, g18, g19, g20, g21, g22, g23, g24, g25, g26, g27, g28, g29, g30, g31, g32, g33, g34])), (a5, .inr (8, [.int k35, .int k36, g37, g38, .int k39, g40, g41, g42, g43, g44, g45, g46, g47, g48, g49, g50, g51, g52, g53, g54, g55, g56, g57, g58]))] sz) [(a0, .inr (9, [g6, g7, g8, .ref a5, g9, g10, g11, g12, g13, g14, g15, g16, g17, g18, g19, g20, g21, g22, g23, g24, g25, g26, g27, g28, g29, g30, g31, g32, g33, g34])), (a5, .inr (8, [.int k35, .int k36, g37, g38, .int k39, g40, g41, g42, g43, g44, g45, g46, g47, g48, g49, g50, g51, g52, g53, g54, g55, g56, g57, g58]))] [] t) (va_A [(a0, .inr (9, [g6, g7, g8, .ref a5, g9, g10, g11, g12, g13, g14, g15, g16, g17, g18, g19, g20, g21, g22, g23, g24, g25, g26, g27, g28, g29, g30, g31, g32, g33, g34])), (a5, .inr (8, [.int k35, .int k36, g37, g38, .int k39, g40, g41, g42, g43, g44, g45, g46, g47, g48, g49, g50, g51, g52, g53, g54, g55, g56, g57, g58]))] sz)) 0 0 (va_A [(a0, .inr (9, [g6, g7, g8, .ref a5, g9, g10, g11, g12, g13, g14, g15, g16, g17, g18, g19, g20, g21, g22, g23, g24, g25, g26, g27, g28, g29, g30, g31, g32, g33, g34])), (a5, .inr (8, [.int k35, .int k36, g37, g38, .int k39, g40, g41, g42, g43, g44, g45, g46, g47, g48, g49, g50, g51, g52, g53, g54, g55, g56, g57, g58]))] sz) := by
  refine Met.ofW (cc := cX12_refusesQuestion) (maxL := 5) (ret := (some .int)) (by decide) rfl ?_
  intro p e s m args below meth c s₁ B hml hv
  obtain ⟨rfl, hsz, hP, hK, hD0, hN⟩ := hv
  have hx := B.exec
  have hb := B.bytes
  have hr := B.returns
  have hts := atoms_spec (ws := vX12_refusesQuestion) B.pre
  have hown : s.vm.findClass RX12 = some m.cls := findClass_of_methodNamed B.named
  have hlocks := B.notSynchronized
  subst hsz
  have hD := hD0.self (sz := s.heap.size)
  generalize hAe : va_A [(a0, .inr (9, [g6, g7, g8, .ref a5, g9, g10, g11, g12, g13, g14, g15, g16, g17, g18, g19, g20, g21, g22, g23, g24, g25, g26, g27, g28, g29, g30, g31, g32, g33, g34])), (a5, .inr (8, [.int k35, .int k36, g37, g38, .int k39, g40, g41, g42, g43, g44, g45, g46, g47, g48, g49, g50, g51, g52, g53, g54, g55, g56, g57, g58]))] s.heap.size = A at hD ⊢
  have hA : ∀ q : Nat, s.heap.size ≤ q → A q := fun q h => by rw [← hAe]; exact Or.inr h
  have hS : va_S A s.heap s.heap [] := va_S.rf
  have hP : va_P (dC, dI) vwCl [(a0, .inr (9, [g6, g7, g8, .ref a5, g9, g10, g11, g12, g13, g14, g15, g16, g17, g18, g19, g20, g21, g22, g23, g24, g25, g26, g27, g28, g29, g30, g31, g32, g33, g34])), (a5, .inr (8, [.int k35, .int k36, g37, g38, .int k39, g40, g41, g42, g43, g44, g45, g46, g47, g48, g49, g50, g51, g52, g53, g54, g55, g56, g57, g58]))] s.heap := hP
  have hl := lv_entry ([.ref a0, .int k1, .int k2, .int k3, .int k4]) (n := 5) (Nat.le_of_ble_eq_true rfl)
  rw [lg_entry_eq]
  generalize (lg_sl ([.ref a0, .int k1, .int k2, .int k3, .int k4]) ++ List.replicate (5 - (lg_sl ([.ref a0, .int k1, .int k2, .int k3, .int k4])).length) Slot.unset).toArray = ls at hl ⊢
  have hl : lv_has ls 5 [(0, .ref a0), (1, .int k1), (2, .int k2), (3, .int k3), (4, .int k4)] := hl
  refine lv_iload_n hx hb dX12_refusesQuestion_0 rfl (lv_at hl 1 rfl) ?_
  refine lv_if_eq (tgt := 39) hx hb dX12_refusesQuestion_1 (by decide) (fun c1 => ?_) (fun c1 => ?_)
  · simp only [fa_lt, fa_le, fa_eq, ltv_0] at c1
    refine lv_iconst (v := 1) hx hb dX12_refusesQuestion_39 (by decide) ?_
    have hP9 := hP.sub (ws' := [(a0, .inr (9, [g6, g7, g8, .ref a5, g9, g10, g11, g12, g13, g14, g15, g16, g17, g18, g19, g20, g21, g22, g23, g24, g25, g26, g27, g28, g29, g30, g31, g32, g33, g34])), (a5, .inr (8, [.int k35, .int k36, g37, g38, .int k39, g40, g41, g42, g43, g44, g45, g46, g47, g48, g49, g50, g51, g52, g53, g54, g55, g56, g57, g58]))]) [0, 1] rfl
    have hD9 := hD.sub (ws' := [(a0, .inr (9, [g6, g7, g8, .ref a5, g9, g10, g11, g12, g13, g14, g15, g16, g17, g18, g19, g20, g21, g22, g23, g24, g25, g26, g27, g28, g29, g30, g31, g32, g33, g34])), (a5, .inr (8, [.int k35, .int k36, g37, g38, .int k39, g40, g41, g42, g43, g44, g45, g46, g47, g48, g49, g50, g51, g52, g53, g54, g55, g56, g57, g58]))]) [0, 1] (by decide) rfl
    have hK9 := hK.sub (tys' := []) [] rfl
    exact W.iret (v := 1) hx hb hr (fun t ht hW => ⟨⟨1, (), rfl, (Or.inr (Or.inl rfl)), by rw [ht]; exact hP9, va_K.moved hW.alike hK9, hD9⟩, hS.F ht⟩) hS.2.2 dX12_refusesQuestion_40
  · simp only [fa_lt, fa_le, fa_eq, ltv_0] at c1
    refine lv_iload_n hx hb dX12_refusesQuestion_4 rfl (lv_at hl 2 rfl) ?_
    refine lv_iconst (v := 0) hx hb dX12_refusesQuestion_5 (by decide) ?_
    refine lv_aload_n hx hb dX12_refusesQuestion_6 rfl (lv_at hl 0 rfl) ?_
    refine va_get (D := (dC, dI)) (ci := 9) (v := .ref a5) (C := RX12) (T := TX12) (N := 30) hx hb hts iX12_refusesQuestion_X12 hown hK hP 0 rfl rfl 3 (by decide) (hts (.fieldLink RX12 299 "HookPierModel" "pier" "LHookPierModel$Pier;") (List.mem_of_getElem? (i := 1) rfl)) (fun _ h9 => h9) rfl dX12_refusesQuestion_7 ?_
    refine va_getN (D := (dC, dI)) (ci := 8) (v := .int k35) (C := RX11) (T := TX11) (N := 24) hx hb hts iX12_refusesQuestion_X11 hown hK hP 1 rfl rfl 0 (by decide) (va_Nw.use rfl (hN.1 (.fieldLinkNest RX12 143 "HookPierModel$Pier" "spots" "I" "HookPierModel") (List.mem_of_getElem? (i := 22) rfl))) (fun _ h9 => h9) rfl dX12_refusesQuestion_10 ?_
    refine lv_iconst (v := 1) hx hb dX12_refusesQuestion_13 (by decide) ?_
    refine lv_isub hx hb dX12_refusesQuestion_14 ?_
    refine lv_topi (fun z2 ez2 => ?_)
    have tz2 : z2.toInt = k35.toInt - 1 := by rw [ez2]; rw [isub_t (by first | omega | (simp only [ltv_0, ltv_1]; omega)) (by first | omega | (simp only [ltv_0, ltv_1]; omega))]; first | done | (simp only [ltv_0, ltv_1])
    refine cl_i (wc := []) (wr := [(a0, .inr (9, [g6, g7, g8, .ref a5, g9, g10, g11, g12, g13, g14, g15, g16, g17, g18, g19, g20, g21, g22, g23, g24, g25, g26, g27, g28, g29, g30, g31, g32, g33, g34])), (a5, .inr (8, [.int k35, .int k36, g37, g38, .int k39, g40, g41, g42, g43, g44, g45, g46, g47, g48, g49, g50, g51, g52, g53, g54, g55, g56, g57, g58]))]) (va_runS (As := [.int k2, .int 0, .int z2]) (rest := []) ⟨hx, hb, hml, hown, hts⟩ (kX12_in l dC dI k2 0 z2  s.heap.size) (va_cwS 3 hts gX12_refusesQuestion_0 rfl rfl rfl (by decide +kernel) ⟨Nat.le_of_ble_eq_true rfl, Nat.le_of_ble_eq_true rfl⟩) (PS (hP.sub (ws' := []) [] rfl) (hK.sub (tys' := []) [] rfl) (hD.sub (ws' := []) [] (by decide) rfl) hN) rfl rfl hl.1 rfl (lv_room (Nat.le_of_ble_eq_true rfl)) dX12_refusesQuestion_15 ⟨Nat.le_of_ble_eq_true rfl, Nat.le_of_ble_eq_true rfl⟩) hP hD hK hS hA [] [0, 1] rfl rfl (by decide) (by decide) (fun z3 _u H locs hw hP hD hK hS => ?_)
    have b4 := hw
    have hP : va_P (dC, dI) vwCl [(a0, .inr (9, [g6, g7, g8, .ref a5, g9, g10, g11, g12, g13, g14, g15, g16, g17, g18, g19, g20, g21, g22, g23, g24, g25, g26, g27, g28, g29, g30, g31, g32, g33, g34])), (a5, .inr (8, [.int k35, .int k36, g37, g38, .int k39, g40, g41, g42, g43, g44, g45, g46, g47, g48, g49, g50, g51, g52, g53, g54, g55, g56, g57, g58]))] H := hP
    have hD : va_D A [(a0, .inr (9, [g6, g7, g8, .ref a5, g9, g10, g11, g12, g13, g14, g15, g16, g17, g18, g19, g20, g21, g22, g23, g24, g25, g26, g27, g28, g29, g30, g31, g32, g33, g34])), (a5, .inr (8, [.int k35, .int k36, g37, g38, .int k39, g40, g41, g42, g43, g44, g45, g46, g47, g48, g49, g50, g51, g52, g53, g54, g55, g56, g57, g58]))] := hD
    have hK : va_K (dC, dI) vwCl [] s := hK
    rcases hw with rfl | ⟨rfl, h5, h6⟩
    · refine lv_if_eq (tgt := 39) hx hb dX12_refusesQuestion_18 (by decide) (fun _ => ?_) (fun c7 => absurd c7 (by decide))
      refine lv_iconst (v := 1) hx hb dX12_refusesQuestion_39 (by decide) ?_
      have hP9 := hP.sub (ws' := [(a0, .inr (9, [g6, g7, g8, .ref a5, g9, g10, g11, g12, g13, g14, g15, g16, g17, g18, g19, g20, g21, g22, g23, g24, g25, g26, g27, g28, g29, g30, g31, g32, g33, g34])), (a5, .inr (8, [.int k35, .int k36, g37, g38, .int k39, g40, g41, g42, g43, g44, g45, g46, g47, g48, g49, g50, g51, g52, g53, g54, g55, g56, g57, g58]))]) [0, 1] rfl
      have hD9 := hD.sub (ws' := [(a0, .inr (9, [g6, g7, g8, .ref a5, g9, g10, g11, g12, g13, g14, g15, g16, g17, g18, g19, g20, g21, g22, g23, g24, g25, g26, g27, g28, g29, g30, g31, g32, g33, g34])), (a5, .inr (8, [.int k35, .int k36, g37, g38, .int k39, g40, g41, g42, g43, g44, g45, g46, g47, g48, g49, g50, g51, g52, g53, g54, g55, g56, g57, g58]))]) [0, 1] (by decide) rfl
      have hK9 := hK.sub (tys' := []) [] rfl
      exact W.iret (v := 1) hx hb hr (fun t ht hW => ⟨⟨1, (), rfl, (Or.inr (Or.inl rfl)), by rw [ht]; exact hP9, va_K.moved hW.alike hK9, hD9⟩, hS.F ht⟩) hS.2.2 dX12_refusesQuestion_40
    · try simp only [ltv_0] at h5
      try simp only [ltv_0] at h6
      refine lv_if_eq (tgt := 39) hx hb dX12_refusesQuestion_18 (by decide) (fun c8 => absurd c8 (by decide)) (fun _ => ?_)
      refine lv_iload hx hb dX12_refusesQuestion_21 (lv_at hl 4 rfl) ?_
      refine lv_iconst (v := 0) hx hb dX12_refusesQuestion_23 (by decide) ?_
      refine lv_aload_n hx hb dX12_refusesQuestion_24 rfl (lv_at hl 0 rfl) ?_
      refine va_get (D := (dC, dI)) (ci := 9) (v := .ref a5) (C := RX12) (T := TX12) (N := 30) hx hb hts iX12_refusesQuestion_X12 hown hK hP 0 rfl rfl 3 (by decide) (hts (.fieldLink RX12 299 "HookPierModel" "pier" "LHookPierModel$Pier;") (List.mem_of_getElem? (i := 1) rfl)) (fun _ h9 => h9) rfl dX12_refusesQuestion_25 ?_
      refine va_getN (D := (dC, dI)) (ci := 8) (v := .int k39) (C := RX11) (T := TX11) (N := 24) hx hb hts iX12_refusesQuestion_X11 hown hK hP 1 rfl rfl 4 (by decide) (va_Nw.use rfl (hN.1 (.fieldLinkNest RX12 175 "HookPierModel$Pier" "baits" "I" "HookPierModel") (List.mem_of_getElem? (i := 26) rfl))) (fun _ h9 => h9) rfl dX12_refusesQuestion_28 ?_
      refine lv_iconst (v := 1) hx hb dX12_refusesQuestion_31 (by decide) ?_
      refine lv_isub hx hb dX12_refusesQuestion_32 ?_
      refine lv_topi (fun z9 ez9 => ?_)
      have tz9 : z9.toInt = k39.toInt - 1 := by rw [ez9]; rw [isub_t (by first | omega | (simp only [ltv_0, ltv_1]; omega)) (by first | omega | (simp only [ltv_0, ltv_1]; omega))]; first | done | (simp only [ltv_0, ltv_1])
      refine cl_i (wc := []) (wr := [(a0, .inr (9, [g6, g7, g8, .ref a5, g9, g10, g11, g12, g13, g14, g15, g16, g17, g18, g19, g20, g21, g22, g23, g24, g25, g26, g27, g28, g29, g30, g31, g32, g33, g34])), (a5, .inr (8, [.int k35, .int k36, g37, g38, .int k39, g40, g41, g42, g43, g44, g45, g46, g47, g48, g49, g50, g51, g52, g53, g54, g55, g56, g57, g58]))]) (va_runS (As := [.int k4, .int 0, .int z9]) (rest := []) ⟨hx, hb, hml, hown, hts⟩ (kX12_in l dC dI k4 0 z9  H.size) (va_cwS 3 hts gX12_refusesQuestion_0 rfl rfl rfl (by decide +kernel) ⟨Nat.le_of_ble_eq_true rfl, Nat.le_of_ble_eq_true rfl⟩) (PS (hP.sub (ws' := []) [] rfl) (hK.sub (tys' := []) [] rfl) (hD.sub (ws' := []) [] (by decide) rfl) hN) rfl rfl hl.1 rfl (lv_room (Nat.le_of_ble_eq_true rfl)) dX12_refusesQuestion_33 ⟨Nat.le_of_ble_eq_true rfl, Nat.le_of_ble_eq_true rfl⟩) hP hD hK hS hA [] [0, 1] rfl rfl (by decide) (by decide) (fun z10 _u H locs hw hP hD hK hS => ?_)
      have b11 := hw
      have hP : va_P (dC, dI) vwCl [(a0, .inr (9, [g6, g7, g8, .ref a5, g9, g10, g11, g12, g13, g14, g15, g16, g17, g18, g19, g20, g21, g22, g23, g24, g25, g26, g27, g28, g29, g30, g31, g32, g33, g34])), (a5, .inr (8, [.int k35, .int k36, g37, g38, .int k39, g40, g41, g42, g43, g44, g45, g46, g47, g48, g49, g50, g51, g52, g53, g54, g55, g56, g57, g58]))] H := hP
      have hD : va_D A [(a0, .inr (9, [g6, g7, g8, .ref a5, g9, g10, g11, g12, g13, g14, g15, g16, g17, g18, g19, g20, g21, g22, g23, g24, g25, g26, g27, g28, g29, g30, g31, g32, g33, g34])), (a5, .inr (8, [.int k35, .int k36, g37, g38, .int k39, g40, g41, g42, g43, g44, g45, g46, g47, g48, g49, g50, g51, g52, g53, g54, g55, g56, g57, g58]))] := hD
      have hK : va_K (dC, dI) vwCl [] s := hK
      rcases hw with rfl | ⟨rfl, h12, h13⟩
      · refine lv_if_ne (tgt := 41) hx hb dX12_refusesQuestion_36 (by decide) (fun c14 => absurd c14 (by decide)) (fun _ => ?_)
        refine lv_iconst (v := 1) hx hb dX12_refusesQuestion_39 (by decide) ?_
        have hP9 := hP.sub (ws' := [(a0, .inr (9, [g6, g7, g8, .ref a5, g9, g10, g11, g12, g13, g14, g15, g16, g17, g18, g19, g20, g21, g22, g23, g24, g25, g26, g27, g28, g29, g30, g31, g32, g33, g34])), (a5, .inr (8, [.int k35, .int k36, g37, g38, .int k39, g40, g41, g42, g43, g44, g45, g46, g47, g48, g49, g50, g51, g52, g53, g54, g55, g56, g57, g58]))]) [0, 1] rfl
        have hD9 := hD.sub (ws' := [(a0, .inr (9, [g6, g7, g8, .ref a5, g9, g10, g11, g12, g13, g14, g15, g16, g17, g18, g19, g20, g21, g22, g23, g24, g25, g26, g27, g28, g29, g30, g31, g32, g33, g34])), (a5, .inr (8, [.int k35, .int k36, g37, g38, .int k39, g40, g41, g42, g43, g44, g45, g46, g47, g48, g49, g50, g51, g52, g53, g54, g55, g56, g57, g58]))]) [0, 1] (by decide) rfl
        have hK9 := hK.sub (tys' := []) [] rfl
        exact W.iret (v := 1) hx hb hr (fun t ht hW => ⟨⟨1, (), rfl, (Or.inr (Or.inl rfl)), by rw [ht]; exact hP9, va_K.moved hW.alike hK9, hD9⟩, hS.F ht⟩) hS.2.2 dX12_refusesQuestion_40
      · try simp only [ltv_0] at h12
        try simp only [ltv_0] at h13
        refine lv_if_ne (tgt := 41) hx hb dX12_refusesQuestion_36 (by decide) (fun _ => ?_) (fun c15 => absurd c15 (by decide))
        refine lv_iload_n hx hb dX12_refusesQuestion_41 rfl (lv_at hl 3 rfl) ?_
        refine lv_iconst (v := 1) hx hb dX12_refusesQuestion_42 (by decide) ?_
        refine lv_aload_n hx hb dX12_refusesQuestion_43 rfl (lv_at hl 0 rfl) ?_
        refine va_get (D := (dC, dI)) (ci := 9) (v := .ref a5) (C := RX12) (T := TX12) (N := 30) hx hb hts iX12_refusesQuestion_X12 hown hK hP 0 rfl rfl 3 (by decide) (hts (.fieldLink RX12 299 "HookPierModel" "pier" "LHookPierModel$Pier;") (List.mem_of_getElem? (i := 1) rfl)) (fun _ h9 => h9) rfl dX12_refusesQuestion_44 ?_
        refine va_getN (D := (dC, dI)) (ci := 8) (v := .int k36) (C := RX11) (T := TX11) (N := 24) hx hb hts iX12_refusesQuestion_X11 hown hK hP 1 rfl rfl 1 (by decide) (va_Nw.use rfl (hN.1 (.fieldLinkNest RX12 207 "HookPierModel$Pier" "deep" "I" "HookPierModel") (List.mem_of_getElem? (i := 23) rfl))) (fun _ h9 => h9) rfl dX12_refusesQuestion_47 ?_
        refine cl_i (wc := []) (wr := [(a0, .inr (9, [g6, g7, g8, .ref a5, g9, g10, g11, g12, g13, g14, g15, g16, g17, g18, g19, g20, g21, g22, g23, g24, g25, g26, g27, g28, g29, g30, g31, g32, g33, g34])), (a5, .inr (8, [.int k35, .int k36, g37, g38, .int k39, g40, g41, g42, g43, g44, g45, g46, g47, g48, g49, g50, g51, g52, g53, g54, g55, g56, g57, g58]))]) (va_runS (As := [.int k3, .int 1, .int k36]) (rest := []) ⟨hx, hb, hml, hown, hts⟩ (kX12_in l dC dI k3 1 k36  H.size) (va_cwS 3 hts gX12_refusesQuestion_0 rfl rfl rfl (by decide +kernel) ⟨Nat.le_of_ble_eq_true rfl, Nat.le_of_ble_eq_true rfl⟩) (PS (hP.sub (ws' := []) [] rfl) (hK.sub (tys' := []) [] rfl) (hD.sub (ws' := []) [] (by decide) rfl) hN) rfl rfl hl.1 rfl (lv_room (Nat.le_of_ble_eq_true rfl)) dX12_refusesQuestion_50 ⟨Nat.le_of_ble_eq_true rfl, Nat.le_of_ble_eq_true rfl⟩) hP hD hK hS hA [] [0, 1] rfl rfl (by decide) (by decide) (fun z16 _u H locs hw hP hD hK hS => ?_)
        have b17 := hw
        have hP : va_P (dC, dI) vwCl [(a0, .inr (9, [g6, g7, g8, .ref a5, g9, g10, g11, g12, g13, g14, g15, g16, g17, g18, g19, g20, g21, g22, g23, g24, g25, g26, g27, g28, g29, g30, g31, g32, g33, g34])), (a5, .inr (8, [.int k35, .int k36, g37, g38, .int k39, g40, g41, g42, g43, g44, g45, g46, g47, g48, g49, g50, g51, g52, g53, g54, g55, g56, g57, g58]))] H := hP
        have hD : va_D A [(a0, .inr (9, [g6, g7, g8, .ref a5, g9, g10, g11, g12, g13, g14, g15, g16, g17, g18, g19, g20, g21, g22, g23, g24, g25, g26, g27, g28, g29, g30, g31, g32, g33, g34])), (a5, .inr (8, [.int k35, .int k36, g37, g38, .int k39, g40, g41, g42, g43, g44, g45, g46, g47, g48, g49, g50, g51, g52, g53, g54, g55, g56, g57, g58]))] := hD
        have hK : va_K (dC, dI) vwCl [] s := hK
        rcases hw with rfl | ⟨rfl, h18, h19⟩
        · refine lv_if_eq (tgt := 60) hx hb dX12_refusesQuestion_53 (by decide) (fun _ => ?_) (fun c20 => absurd c20 (by decide))
          refine lv_iconst (v := 2) hx hb dX12_refusesQuestion_60 (by decide) ?_
          have hP9 := hP.sub (ws' := [(a0, .inr (9, [g6, g7, g8, .ref a5, g9, g10, g11, g12, g13, g14, g15, g16, g17, g18, g19, g20, g21, g22, g23, g24, g25, g26, g27, g28, g29, g30, g31, g32, g33, g34])), (a5, .inr (8, [.int k35, .int k36, g37, g38, .int k39, g40, g41, g42, g43, g44, g45, g46, g47, g48, g49, g50, g51, g52, g53, g54, g55, g56, g57, g58]))]) [0, 1] rfl
          have hD9 := hD.sub (ws' := [(a0, .inr (9, [g6, g7, g8, .ref a5, g9, g10, g11, g12, g13, g14, g15, g16, g17, g18, g19, g20, g21, g22, g23, g24, g25, g26, g27, g28, g29, g30, g31, g32, g33, g34])), (a5, .inr (8, [.int k35, .int k36, g37, g38, .int k39, g40, g41, g42, g43, g44, g45, g46, g47, g48, g49, g50, g51, g52, g53, g54, g55, g56, g57, g58]))]) [0, 1] (by decide) rfl
          have hK9 := hK.sub (tys' := []) [] rfl
          exact W.iret (v := 2) hx hb hr (fun t ht hW => ⟨⟨2, (), rfl, (Or.inr (Or.inr ⟨rfl, (by first | trivial | omega | (simp only [ltv_0, ltv_2]; omega)), (by first | trivial | omega | (simp only [ltv_0, ltv_2]; omega)), (by first | trivial | omega | (simp only [ltv_0, ltv_2]; omega)), (by first | trivial | omega | (simp only [ltv_0, ltv_2]; omega)), (by first | trivial | omega | (simp only [ltv_0, ltv_2]; omega))⟩)), by rw [ht]; exact hP9, va_K.moved hW.alike hK9, hD9⟩, hS.F ht⟩) hS.2.2 dX12_refusesQuestion_61
        · try simp only [ltv_0, ltv_1] at h18
          try simp only [ltv_0, ltv_1] at h19
          refine lv_if_eq (tgt := 60) hx hb dX12_refusesQuestion_53 (by decide) (fun c21 => absurd c21 (by decide)) (fun _ => ?_)
          refine lv_iconst (v := 0) hx hb dX12_refusesQuestion_56 (by decide) ?_
          refine lv_goto (tgt := 61) hx hb dX12_refusesQuestion_57 (by decide) ?_
          have hP9 := hP.sub (ws' := [(a0, .inr (9, [g6, g7, g8, .ref a5, g9, g10, g11, g12, g13, g14, g15, g16, g17, g18, g19, g20, g21, g22, g23, g24, g25, g26, g27, g28, g29, g30, g31, g32, g33, g34])), (a5, .inr (8, [.int k35, .int k36, g37, g38, .int k39, g40, g41, g42, g43, g44, g45, g46, g47, g48, g49, g50, g51, g52, g53, g54, g55, g56, g57, g58]))]) [0, 1] rfl
          have hD9 := hD.sub (ws' := [(a0, .inr (9, [g6, g7, g8, .ref a5, g9, g10, g11, g12, g13, g14, g15, g16, g17, g18, g19, g20, g21, g22, g23, g24, g25, g26, g27, g28, g29, g30, g31, g32, g33, g34])), (a5, .inr (8, [.int k35, .int k36, g37, g38, .int k39, g40, g41, g42, g43, g44, g45, g46, g47, g48, g49, g50, g51, g52, g53, g54, g55, g56, g57, g58]))]) [0, 1] (by decide) rfl
          have hK9 := hK.sub (tys' := []) [] rfl
          exact W.iret (v := 0) hx hb hr (fun t ht hW => ⟨⟨0, (), rfl, (Or.inl ⟨rfl, (by first | trivial | omega | (simp only [ltv_0]; omega)), (by first | trivial | omega | (simp only [ltv_0]; omega)), (by first | trivial | omega | (simp only [ltv_0]; omega)), (by first | trivial | omega | (simp only [ltv_0]; omega)), (by first | trivial | omega | (simp only [ltv_0]; omega)), (by first | trivial | omega | (simp only [ltv_0]; omega)), (by first | trivial | omega | (simp only [ltv_0]; omega)), (by first | trivial | omega | (simp only [ltv_0]; omega))⟩), by rw [ht]; exact hP9, va_K.moved hW.alike hK9, hD9⟩, hS.F ht⟩) hS.2.2 dX12_refusesQuestion_61
theorem dX12_keeps_0 : decode cX12_keeps 0 = .ok (.iload_n 3, 1) := by decide +kernel
theorem dX12_keeps_1 : decode cX12_keeps 1 = .ok (.iload_n 2, 1) := by decide +kernel
theorem dX12_keeps_101 : decode cX12_keeps 101 = .ok (.aload_n 0, 1) := by decide +kernel
theorem dX12_keeps_102 : decode cX12_keeps 102 = .ok (.getfield 299, 3) := by decide +kernel
theorem dX12_keeps_105 : decode cX12_keeps 105 = .ok (.getfield 267, 3) := by decide +kernel
theorem dX12_keeps_108 : decode cX12_keeps 108 = .ok (.iload_n 1, 1) := by decide +kernel
theorem dX12_keeps_109 : decode cX12_keeps 109 = .ok (.iaload, 1) := by decide +kernel
theorem dX12_keeps_110 : decode cX12_keeps 110 = .ok (.iconst 5, 1) := by decide +kernel
theorem dX12_keeps_111 : decode cX12_keeps 111 = .ok (.iload 4, 2) := by decide +kernel
theorem dX12_keeps_113 : decode cX12_keeps 113 = .ok (.imul, 1) := by decide +kernel
theorem dX12_keeps_114 : decode cX12_keeps 114 = .ok (.isub, 1) := by decide +kernel
theorem dX12_keeps_115 : decode cX12_keeps 115 = .ok (.goto 4, 3) := by decide +kernel
theorem dX12_keeps_118 : decode cX12_keeps 118 = .ok (.iconst 0, 1) := by decide +kernel
theorem dX12_keeps_119 : decode cX12_keeps 119 = .ok (.ireturn, 1) := by decide +kernel
theorem dX12_keeps_12 : decode cX12_keeps 12 = .ok (.iload_n 1, 1) := by decide +kernel
theorem dX12_keeps_13 : decode cX12_keeps 13 = .ok (.iaload, 1) := by decide +kernel
theorem dX12_keeps_14 : decode cX12_keeps 14 = .ok (.lookupswitch 71 #[(1, 26), (3, 36)], 26) := by decide +kernel
theorem dX12_keeps_2 : decode cX12_keeps 2 = .ok (.isub, 1) := by decide +kernel
theorem dX12_keeps_3 : decode cX12_keeps 3 = .ok (.istore 4, 2) := by decide +kernel
theorem dX12_keeps_40 : decode cX12_keeps 40 = .ok (.aload_n 0, 1) := by decide +kernel
theorem dX12_keeps_41 : decode cX12_keeps 41 = .ok (.getfield 299, 3) := by decide +kernel
theorem dX12_keeps_44 : decode cX12_keeps 44 = .ok (.getfield 267, 3) := by decide +kernel
theorem dX12_keeps_47 : decode cX12_keeps 47 = .ok (.iload_n 1, 1) := by decide +kernel
theorem dX12_keeps_48 : decode cX12_keeps 48 = .ok (.iaload, 1) := by decide +kernel
theorem dX12_keeps_49 : decode cX12_keeps 49 = .ok (.ireturn, 1) := by decide +kernel
theorem dX12_keeps_5 : decode cX12_keeps 5 = .ok (.aload_n 0, 1) := by decide +kernel
theorem dX12_keeps_50 : decode cX12_keeps 50 = .ok (.aload_n 0, 1) := by decide +kernel
theorem dX12_keeps_51 : decode cX12_keeps 51 = .ok (.getfield 299, 3) := by decide +kernel
theorem dX12_keeps_54 : decode cX12_keeps 54 = .ok (.getfield 267, 3) := by decide +kernel
theorem dX12_keeps_57 : decode cX12_keeps 57 = .ok (.iload_n 1, 1) := by decide +kernel
theorem dX12_keeps_58 : decode cX12_keeps 58 = .ok (.iaload, 1) := by decide +kernel
theorem dX12_keeps_59 : decode cX12_keeps 59 = .ok (.iload 4, 2) := by decide +kernel
theorem dX12_keeps_6 : decode cX12_keeps 6 = .ok (.getfield 299, 3) := by decide +kernel
theorem dX12_keeps_61 : decode cX12_keeps 61 = .ok (.iadd, 1) := by decide +kernel
theorem dX12_keeps_62 : decode cX12_keeps 62 = .ok (.bipush 99, 2) := by decide +kernel
theorem dX12_keeps_64 : decode cX12_keeps 64 = .ok (.if_icmp .ge 18, 3) := by decide +kernel
theorem dX12_keeps_67 : decode cX12_keeps 67 = .ok (.aload_n 0, 1) := by decide +kernel
theorem dX12_keeps_68 : decode cX12_keeps 68 = .ok (.getfield 299, 3) := by decide +kernel
theorem dX12_keeps_71 : decode cX12_keeps 71 = .ok (.getfield 267, 3) := by decide +kernel
theorem dX12_keeps_74 : decode cX12_keeps 74 = .ok (.iload_n 1, 1) := by decide +kernel
theorem dX12_keeps_75 : decode cX12_keeps 75 = .ok (.iaload, 1) := by decide +kernel
theorem dX12_keeps_76 : decode cX12_keeps 76 = .ok (.iload 4, 2) := by decide +kernel
theorem dX12_keeps_78 : decode cX12_keeps 78 = .ok (.iadd, 1) := by decide +kernel
theorem dX12_keeps_79 : decode cX12_keeps 79 = .ok (.goto 5, 3) := by decide +kernel
theorem dX12_keeps_82 : decode cX12_keeps 82 = .ok (.bipush 99, 2) := by decide +kernel
theorem dX12_keeps_84 : decode cX12_keeps 84 = .ok (.ireturn, 1) := by decide +kernel
theorem dX12_keeps_85 : decode cX12_keeps 85 = .ok (.aload_n 0, 1) := by decide +kernel
theorem dX12_keeps_86 : decode cX12_keeps 86 = .ok (.getfield 299, 3) := by decide +kernel
theorem dX12_keeps_89 : decode cX12_keeps 89 = .ok (.getfield 267, 3) := by decide +kernel
theorem dX12_keeps_9 : decode cX12_keeps 9 = .ok (.getfield 256, 3) := by decide +kernel
theorem dX12_keeps_92 : decode cX12_keeps 92 = .ok (.iload_n 1, 1) := by decide +kernel
theorem dX12_keeps_93 : decode cX12_keeps 93 = .ok (.iaload, 1) := by decide +kernel
theorem dX12_keeps_94 : decode cX12_keeps 94 = .ok (.iconst 5, 1) := by decide +kernel
theorem dX12_keeps_95 : decode cX12_keeps 95 = .ok (.iload 4, 2) := by decide +kernel
theorem dX12_keeps_97 : decode cX12_keeps 97 = .ok (.imul, 1) := by decide +kernel
theorem dX12_keeps_98 : decode cX12_keeps 98 = .ok (.if_icmp .le 20, 3) := by decide +kernel
def vX12_keeps : List Cond := .code yX12_keeps cX12_keeps 5 (some .int) :: ([.fieldLink RX12 299 "HookPierModel" "pier" "LHookPierModel$Pier;"] ++ wsX120 ++ wsX110)
theorem iX12_keeps_X12 : ∀ w ∈ wsX120, w ∈ vX12_keeps := fun _ h => List.mem_cons_of_mem _ (List.mem_append_left _ (List.mem_append_right _ h))
theorem iX12_keeps_X11 : ∀ w ∈ wsX110, w ∈ vX12_keeps := fun _ h => List.mem_cons_of_mem _ (List.mem_append_right _ h)
set_option maxHeartbeats 2000000 in
set_option maxRecDepth 100000 in
theorem kX12_keeps (l : Launch) (dC : Nat → ClassId) (dI : Nat → Nat → Nat) (a0 : Nat) (k1 : Int32) (k2 : Int32) (k3 : Int32) (a4 : Nat) (a5 : Nat) (a6 : Nat) (g7 : Value) (g8 : Value) (g9 : Value) (g10 : Value) (g11 : Value) (g12 : Value) (g13 : Value) (g14 : Value) (g15 : Value) (g16 : Value) (g17 : Value) (g18 : Value) (g19 : Value) (g20 : Value) (g21 : Value) (g22 : Value) (g23 : Value) (g24 : Value) (g25 : Value) (g26 : Value) (g27 : Value) (g28 : Value) (g29 : Value) (g30 : Value) (g31 : Value) (g32 : Value) (g33 : Value) (g34 : Value) (g35 : Value) (g36 : Value) (g37 : Value) (g38 : Value) (g39 : Value) (g40 : Value) (g41 : Value) (g42 : Value) (g43 : Value) (g44 : Value) (g45 : Value) (g46 : Value) (g47 : Value) (g48 : Value) (g49 : Value) (g50 : Value) (g51 : Value) (g52 : Value) (g53 : Value) (g54 : Value) (g55 : Value) (g56 : Value) (g57 : Value) (cB58 : ClassId) (f59 : Nat → Int32) (cB60 : ClassId) (f61 : Nat → Int32) (hk1 : (0 ≤ k1.toInt ∧ k1.toInt ≤ 5)) (sz : Nat) : Met l yX12_keeps vX12_keeps ({ frames := 0, cells := 0, slots := 0, locals := 0 }) (PC (dC, dI) [.ref a0, .int k1, .int k2, .int k3] sz [(a0, .inr (9, [g7, g8, g9, .ref a4, g10, g11, g12, g13, g14, g15, g16, g17, g18, g19, g20, g21, g22, g23, g24, g25, g26, g27, g28, g29, g30, g31, g32, g33, g34, g35])), (a4, .inr (8, [g36, g37, g38, g39, g40, g41, g42, g43, g44, g45, g46, .ref a5, g47, g48, g49, g50, .ref a6, g51, g52, g53, g54, g55, g56, g57])), (a5, .inl (cB58, 6, .inl f59)), (a6, .inl (cB60, 6, .inl f61))] [(cB58, .int), (cB60, .int)]) (va_Qi (S := Unit) (fun (r : Int32) _ => True) (fun _ t => BC (dC, dI) (va_A [(a0, .inr (9, [g7, g8, g9, .ref a4, g10, g11, g12, g13, g14, g15, g16, g17, g18, g19, g20, g21, g22, g23, g24, g25, g26, g27, g28, g29, g30, g31, g32, g33, g34, g35])), (a4, .inr (8, [g36, g37, g38, g39, g40, g41, g42, g43, g44, g45, g46, .ref a5, g47, g48, g49, g50, .ref a6, g51, g52, g53, g54, g55, g56, g57])), (a5, .inl (cB58, 6, .inl f59)), (a6, .inl (cB60, 6, .inl f61))] sz) [(a0, .inr (9, [g7, g8, g9, .ref a4, g10, g11, g12, g13, g14, g15, g16, g17, g18, g19, g20, g21, g22, g23, g24, g25, g26, g27, g28, g29, g30, g31, g32, g33, g34, g35])), (a4, .inr (8, [g36, g37, g38, g39, g40, g41, g42, g43, g44, g45, g46, .ref a5, g47, g48, g49, g50, .ref a6, g51, g52, g53, g54, g55, g56, g57])), (a5, .inl (cB58, 6, .inl f59)), (a6, .inl (cB60, 6, .inl f61))] [] t) (va_A [(a0, .inr (9, [g7, g8, g9, .ref a4, g10, g11, g12, g13, g14, g15, g16, g17, g18, g19, g20, g21, g22, g23, g24, g25, g26, g27, g28, g29, g30, g31, g32, g33, g34, g35])), (a4, .inr (8, [g36, g37, g38, g39, g40, g41, g42, g43, g44, g45, g46, .ref a5, g47, g48, g49, g50, .ref a6, g51, g52, g53, g54, g55, g56, g57])), (a5, .inl (cB58, 6, .inl f59)), (a6, .inl (cB60, 6, .inl f61))] sz)) 0 0 (va_A [(a0, .inr (9, [g7, g8, g9, .ref a4, g10, g11, g12, g13, g14, g15, g16, g17, g18, g19, g20, g21, g22, g23, g24, g25, g26, g27, g28, g29, g30, g31, g32, g33, g34, g35])), (a4, .inr (8, [g36, g37, g38, g39, g40, g41, g42, g43, g44, g45, g46, .ref a5, g47, g48, g49, g50, .ref a6, g51, g52, g53, g54, g55, g56, g57])), (a5, .inl (cB58, 6, .inl f59)), (a6, .inl (cB60, 6, .inl f61))] sz) := by
  refine Met.ofW (cc := cX12_keeps) (maxL := 5) (ret := (some .int)) (by decide) rfl ?_
  intro p e s m args below meth c s₁ B hml hv
  obtain ⟨rfl, hsz, hP, hK, hD0, hN⟩ := hv
  have hx := B.exec
  have hb := B.bytes
  have hr := B.returns
  have hts := atoms_spec (ws := vX12_keeps) B.pre
  have hown : s.vm.findClass RX12 = some m.cls := findClass_of_methodNamed B.named
  have hlocks := B.notSynchronized
  subst hsz
  have hD := hD0.self (sz := s.heap.size)
  generalize hAe : va_A [(a0, .inr (9, [g7, g8, g9, .ref a4, g10, g11, g12, g13, g14, g15, g16, g17, g18, g19, g20, g21, g22, g23, g24, g25, g26, g27, g28, g29, g30, g31, g32, g33, g34, g35])), (a4, .inr (8, [g36, g37, g38, g39, g40, g41, g42, g43, g44, g45, g46, .ref a5, g47, g48, g49, g50, .ref a6, g51, g52, g53, g54, g55, g56, g57])), (a5, .inl (cB58, 6, .inl f59)), (a6, .inl (cB60, 6, .inl f61))] s.heap.size = A at hD ⊢
  have hA : ∀ q : Nat, s.heap.size ≤ q → A q := fun q h => by rw [← hAe]; exact Or.inr h
  have hS : va_S A s.heap s.heap [] := va_S.rf
  have hP : va_P (dC, dI) vwCl [(a0, .inr (9, [g7, g8, g9, .ref a4, g10, g11, g12, g13, g14, g15, g16, g17, g18, g19, g20, g21, g22, g23, g24, g25, g26, g27, g28, g29, g30, g31, g32, g33, g34, g35])), (a4, .inr (8, [g36, g37, g38, g39, g40, g41, g42, g43, g44, g45, g46, .ref a5, g47, g48, g49, g50, .ref a6, g51, g52, g53, g54, g55, g56, g57])), (a5, .inl (cB58, 6, .inl f59)), (a6, .inl (cB60, 6, .inl f61))] s.heap := hP
  have hl := lv_entry ([.ref a0, .int k1, .int k2, .int k3]) (n := 5) (Nat.le_of_ble_eq_true rfl)
  rw [lg_entry_eq]
  generalize (lg_sl ([.ref a0, .int k1, .int k2, .int k3]) ++ List.replicate (5 - (lg_sl ([.ref a0, .int k1, .int k2, .int k3])).length) Slot.unset).toArray = ls at hl ⊢
  have hl : lv_has ls 5 [(0, .ref a0), (1, .int k1), (2, .int k2), (3, .int k3)] := hl
  refine lv_iload_n hx hb dX12_keeps_0 rfl (lv_at hl 3 rfl) ?_
  refine lv_iload_n hx hb dX12_keeps_1 rfl (lv_at hl 2 rfl) ?_
  refine lv_isub hx hb dX12_keeps_2 ?_
  refine lv_topi (fun z1 ez1 => ?_)
  clear ez1
  refine lv_istore (lv' := [(4, .int z1), (0, .ref a0), (1, .int k1), (2, .int k2), (3, .int k3)]) hx hb dX12_keeps_3 hl (by decide) rfl (fun ls hl => ?_)
  refine lv_aload_n hx hb dX12_keeps_5 rfl (lv_at hl 1 rfl) ?_
  refine va_get (D := (dC, dI)) (ci := 9) (v := .ref a4) (C := RX12) (T := TX12) (N := 30) hx hb hts iX12_keeps_X12 hown hK hP 0 rfl rfl 3 (by decide) (hts (.fieldLink RX12 299 "HookPierModel" "pier" "LHookPierModel$Pier;") (List.mem_of_getElem? (i := 1) rfl)) (fun _ h9 => h9) rfl dX12_keeps_6 ?_
  refine va_getN (D := (dC, dI)) (ci := 8) (v := .ref a5) (C := RX11) (T := TX11) (N := 24) hx hb hts iX12_keeps_X11 hown hK hP 1 rfl rfl 11 (by decide) (va_Nw.use rfl (hN.1 (.fieldLinkNest RX12 256 "HookPierModel$Pier" "kind" "[I" "HookPierModel") (List.mem_of_getElem? (i := 33) rfl))) (fun _ h9 => h9) rfl dX12_keeps_9 ?_
  refine lv_iload_n hx hb dX12_keeps_12 rfl (lv_at hl 2 rfl) ?_
  refine va_iald hx hb hK hP 2 0 rfl rfl (vp_in_iff.mpr (by omega)) dX12_keeps_13 ?_
  refine lv_topi (fun z2 ez2 => ?_)
  clear ez2
  rcases (show z2 = 1 ∨ z2 = 3 ∨ (¬ z2 = 1 ∧ ¬ z2 = 3) from (by simp only [fa_lt, fa_eq, ltv_1, ltv_3]; omega)) with rfl | rfl | c3
  · refine lv_lookup (tgt := 40) hx hb dX12_keeps_14 (by decide) rfl (by decide) ?_
    refine lv_aload_n hx hb dX12_keeps_40 rfl (lv_at hl 1 rfl) ?_
    refine va_get (D := (dC, dI)) (ci := 9) (v := .ref a4) (C := RX12) (T := TX12) (N := 30) hx hb hts iX12_keeps_X12 hown hK hP 0 rfl rfl 3 (by decide) (hts (.fieldLink RX12 299 "HookPierModel" "pier" "LHookPierModel$Pier;") (List.mem_of_getElem? (i := 1) rfl)) (fun _ h9 => h9) rfl dX12_keeps_41 ?_
    refine va_getN (D := (dC, dI)) (ci := 8) (v := .ref a6) (C := RX11) (T := TX11) (N := 24) hx hb hts iX12_keeps_X11 hown hK hP 1 rfl rfl 16 (by decide) (va_Nw.use rfl (hN.1 (.fieldLinkNest RX12 267 "HookPierModel$Pier" "worth" "[I" "HookPierModel") (List.mem_of_getElem? (i := 38) rfl))) (fun _ h9 => h9) rfl dX12_keeps_44 ?_
    refine lv_iload_n hx hb dX12_keeps_47 rfl (lv_at hl 2 rfl) ?_
    refine va_iald hx hb hK hP 3 1 rfl rfl (vp_in_iff.mpr (by omega)) dX12_keeps_48 ?_
    refine lv_topi (fun z4 ez4 => ?_)
    clear ez4
    have hP9 := hP.sub (ws' := [(a0, .inr (9, [g7, g8, g9, .ref a4, g10, g11, g12, g13, g14, g15, g16, g17, g18, g19, g20, g21, g22, g23, g24, g25, g26, g27, g28, g29, g30, g31, g32, g33, g34, g35])), (a4, .inr (8, [g36, g37, g38, g39, g40, g41, g42, g43, g44, g45, g46, .ref a5, g47, g48, g49, g50, .ref a6, g51, g52, g53, g54, g55, g56, g57])), (a5, .inl (cB58, 6, .inl f59)), (a6, .inl (cB60, 6, .inl f61))]) [0, 1, 2, 3] rfl
    have hD9 := hD.sub (ws' := [(a0, .inr (9, [g7, g8, g9, .ref a4, g10, g11, g12, g13, g14, g15, g16, g17, g18, g19, g20, g21, g22, g23, g24, g25, g26, g27, g28, g29, g30, g31, g32, g33, g34, g35])), (a4, .inr (8, [g36, g37, g38, g39, g40, g41, g42, g43, g44, g45, g46, .ref a5, g47, g48, g49, g50, .ref a6, g51, g52, g53, g54, g55, g56, g57])), (a5, .inl (cB58, 6, .inl f59)), (a6, .inl (cB60, 6, .inl f61))]) [0, 1, 2, 3] (by decide) rfl
    have hK9 := hK.sub (tys' := []) [] rfl
    exact W.iret (v := z4) hx hb hr (fun t ht hW => ⟨⟨z4, (), rfl, trivial, by rw [ht]; exact hP9, va_K.moved hW.alike hK9, hD9⟩, hS.F ht⟩) hS.2.2 dX12_keeps_49
  · refine lv_lookup (tgt := 50) hx hb dX12_keeps_14 (by decide) rfl (by decide) ?_
    refine lv_aload_n hx hb dX12_keeps_50 rfl (lv_at hl 1 rfl) ?_
    refine va_get (D := (dC, dI)) (ci := 9) (v := .ref a4) (C := RX12) (T := TX12) (N := 30) hx hb hts iX12_keeps_X12 hown hK hP 0 rfl rfl 3 (by decide) (hts (.fieldLink RX12 299 "HookPierModel" "pier" "LHookPierModel$Pier;") (List.mem_of_getElem? (i := 1) rfl)) (fun _ h9 => h9) rfl dX12_keeps_51 ?_
    refine va_getN (D := (dC, dI)) (ci := 8) (v := .ref a6) (C := RX11) (T := TX11) (N := 24) hx hb hts iX12_keeps_X11 hown hK hP 1 rfl rfl 16 (by decide) (va_Nw.use rfl (hN.1 (.fieldLinkNest RX12 267 "HookPierModel$Pier" "worth" "[I" "HookPierModel") (List.mem_of_getElem? (i := 38) rfl))) (fun _ h9 => h9) rfl dX12_keeps_54 ?_
    refine lv_iload_n hx hb dX12_keeps_57 rfl (lv_at hl 2 rfl) ?_
    refine va_iald hx hb hK hP 3 1 rfl rfl (vp_in_iff.mpr (by omega)) dX12_keeps_58 ?_
    refine lv_topi (fun z5 ez5 => ?_)
    clear ez5
    refine lv_iload hx hb dX12_keeps_59 (lv_at hl 0 rfl) ?_
    refine lv_iadd hx hb dX12_keeps_61 ?_
    refine lv_topi (fun z6 ez6 => ?_)
    clear ez6
    refine lv_bipush (v := 99) hx hb dX12_keeps_62 (by decide) ?_
    refine lv_icmp_ge (tgt := 82) hx hb dX12_keeps_64 (by decide) (fun c7 => ?_) (fun c7 => ?_)
    · simp only [fa_lt, fa_le, fa_eq, ltv_0, ltv_99] at c7
      refine lv_bipush (v := 99) hx hb dX12_keeps_82 (by decide) ?_
      have hP9 := hP.sub (ws' := [(a0, .inr (9, [g7, g8, g9, .ref a4, g10, g11, g12, g13, g14, g15, g16, g17, g18, g19, g20, g21, g22, g23, g24, g25, g26, g27, g28, g29, g30, g31, g32, g33, g34, g35])), (a4, .inr (8, [g36, g37, g38, g39, g40, g41, g42, g43, g44, g45, g46, .ref a5, g47, g48, g49, g50, .ref a6, g51, g52, g53, g54, g55, g56, g57])), (a5, .inl (cB58, 6, .inl f59)), (a6, .inl (cB60, 6, .inl f61))]) [0, 1, 2, 3] rfl
      have hD9 := hD.sub (ws' := [(a0, .inr (9, [g7, g8, g9, .ref a4, g10, g11, g12, g13, g14, g15, g16, g17, g18, g19, g20, g21, g22, g23, g24, g25, g26, g27, g28, g29, g30, g31, g32, g33, g34, g35])), (a4, .inr (8, [g36, g37, g38, g39, g40, g41, g42, g43, g44, g45, g46, .ref a5, g47, g48, g49, g50, .ref a6, g51, g52, g53, g54, g55, g56, g57])), (a5, .inl (cB58, 6, .inl f59)), (a6, .inl (cB60, 6, .inl f61))]) [0, 1, 2, 3] (by decide) rfl
      have hK9 := hK.sub (tys' := []) [] rfl
      exact W.iret (v := 99) hx hb hr (fun t ht hW => ⟨⟨99, (), rfl, trivial, by rw [ht]; exact hP9, va_K.moved hW.alike hK9, hD9⟩, hS.F ht⟩) hS.2.2 dX12_keeps_84
    · simp only [fa_lt, fa_le, fa_eq, ltv_0, ltv_99] at c7
      refine lv_aload_n hx hb dX12_keeps_67 rfl (lv_at hl 1 rfl) ?_
      refine va_get (D := (dC, dI)) (ci := 9) (v := .ref a4) (C := RX12) (T := TX12) (N := 30) hx hb hts iX12_keeps_X12 hown hK hP 0 rfl rfl 3 (by decide) (hts (.fieldLink RX12 299 "HookPierModel" "pier" "LHookPierModel$Pier;") (List.mem_of_getElem? (i := 1) rfl)) (fun _ h9 => h9) rfl dX12_keeps_68 ?_
      refine va_getN (D := (dC, dI)) (ci := 8) (v := .ref a6) (C := RX11) (T := TX11) (N := 24) hx hb hts iX12_keeps_X11 hown hK hP 1 rfl rfl 16 (by decide) (va_Nw.use rfl (hN.1 (.fieldLinkNest RX12 267 "HookPierModel$Pier" "worth" "[I" "HookPierModel") (List.mem_of_getElem? (i := 38) rfl))) (fun _ h9 => h9) rfl dX12_keeps_71 ?_
      refine lv_iload_n hx hb dX12_keeps_74 rfl (lv_at hl 2 rfl) ?_
      refine va_iald hx hb hK hP 3 1 rfl rfl (vp_in_iff.mpr (by omega)) dX12_keeps_75 ?_
      refine lv_topi (fun z8 ez8 => ?_)
      clear ez8
      refine lv_iload hx hb dX12_keeps_76 (lv_at hl 0 rfl) ?_
      refine lv_iadd hx hb dX12_keeps_78 ?_
      refine lv_topi (fun z9 ez9 => ?_)
      clear ez9
      refine lv_goto (tgt := 84) hx hb dX12_keeps_79 (by decide) ?_
      have hP9 := hP.sub (ws' := [(a0, .inr (9, [g7, g8, g9, .ref a4, g10, g11, g12, g13, g14, g15, g16, g17, g18, g19, g20, g21, g22, g23, g24, g25, g26, g27, g28, g29, g30, g31, g32, g33, g34, g35])), (a4, .inr (8, [g36, g37, g38, g39, g40, g41, g42, g43, g44, g45, g46, .ref a5, g47, g48, g49, g50, .ref a6, g51, g52, g53, g54, g55, g56, g57])), (a5, .inl (cB58, 6, .inl f59)), (a6, .inl (cB60, 6, .inl f61))]) [0, 1, 2, 3] rfl
      have hD9 := hD.sub (ws' := [(a0, .inr (9, [g7, g8, g9, .ref a4, g10, g11, g12, g13, g14, g15, g16, g17, g18, g19, g20, g21, g22, g23, g24, g25, g26, g27, g28, g29, g30, g31, g32, g33, g34, g35])), (a4, .inr (8, [g36, g37, g38, g39, g40, g41, g42, g43, g44, g45, g46, .ref a5, g47, g48, g49, g50, .ref a6, g51, g52, g53, g54, g55, g56, g57])), (a5, .inl (cB58, 6, .inl f59)), (a6, .inl (cB60, 6, .inl f61))]) [0, 1, 2, 3] (by decide) rfl
      have hK9 := hK.sub (tys' := []) [] rfl
      exact W.iret (v := z9) hx hb hr (fun t ht hW => ⟨⟨z9, (), rfl, trivial, by rw [ht]; exact hP9, va_K.moved hW.alike hK9, hD9⟩, hS.F ht⟩) hS.2.2 dX12_keeps_84
  · obtain ⟨c3_0, c3_1⟩ := c3
    refine lv_lookup (tgt := 85) (off := 71) hx hb dX12_keeps_14 (by decide) (by rw [show ∀ (z9 : Array (Int × Int)), z9.toList = z9.toList from fun _ => rfl]; show Op.lookupswitch.offset [(1, 26), (3, 36)] 71 z2.toInt = 71; rw [lv_osw (k := 1) c3_0 (by decide), lv_osw (k := 3) c3_1 (by decide)]; rfl) (by decide) ?_
    refine lv_aload_n hx hb dX12_keeps_85 rfl (lv_at hl 1 rfl) ?_
    refine va_get (D := (dC, dI)) (ci := 9) (v := .ref a4) (C := RX12) (T := TX12) (N := 30) hx hb hts iX12_keeps_X12 hown hK hP 0 rfl rfl 3 (by decide) (hts (.fieldLink RX12 299 "HookPierModel" "pier" "LHookPierModel$Pier;") (List.mem_of_getElem? (i := 1) rfl)) (fun _ h9 => h9) rfl dX12_keeps_86 ?_
    refine va_getN (D := (dC, dI)) (ci := 8) (v := .ref a6) (C := RX11) (T := TX11) (N := 24) hx hb hts iX12_keeps_X11 hown hK hP 1 rfl rfl 16 (by decide) (va_Nw.use rfl (hN.1 (.fieldLinkNest RX12 267 "HookPierModel$Pier" "worth" "[I" "HookPierModel") (List.mem_of_getElem? (i := 38) rfl))) (fun _ h9 => h9) rfl dX12_keeps_89 ?_
    refine lv_iload_n hx hb dX12_keeps_92 rfl (lv_at hl 2 rfl) ?_
    refine va_iald hx hb hK hP 3 1 rfl rfl (vp_in_iff.mpr (by omega)) dX12_keeps_93 ?_
    refine lv_topi (fun z10 ez10 => ?_)
    clear ez10
    refine lv_iconst (v := 5) hx hb dX12_keeps_94 (by decide) ?_
    refine lv_iload hx hb dX12_keeps_95 (lv_at hl 0 rfl) ?_
    refine lv_imul hx hb dX12_keeps_97 ?_
    refine lv_topi (fun z11 ez11 => ?_)
    clear ez11
    refine lv_icmp_le (tgt := 118) hx hb dX12_keeps_98 (by decide) (fun c12 => ?_) (fun c12 => ?_)
    · simp only [fa_lt, fa_le, fa_eq, ltv_0] at c12
      refine lv_iconst (v := 0) hx hb dX12_keeps_118 (by decide) ?_
      have hP9 := hP.sub (ws' := [(a0, .inr (9, [g7, g8, g9, .ref a4, g10, g11, g12, g13, g14, g15, g16, g17, g18, g19, g20, g21, g22, g23, g24, g25, g26, g27, g28, g29, g30, g31, g32, g33, g34, g35])), (a4, .inr (8, [g36, g37, g38, g39, g40, g41, g42, g43, g44, g45, g46, .ref a5, g47, g48, g49, g50, .ref a6, g51, g52, g53, g54, g55, g56, g57])), (a5, .inl (cB58, 6, .inl f59)), (a6, .inl (cB60, 6, .inl f61))]) [0, 1, 2, 3] rfl
      have hD9 := hD.sub (ws' := [(a0, .inr (9, [g7, g8, g9, .ref a4, g10, g11, g12, g13, g14, g15, g16, g17, g18, g19, g20, g21, g22, g23, g24, g25, g26, g27, g28, g29, g30, g31, g32, g33, g34, g35])), (a4, .inr (8, [g36, g37, g38, g39, g40, g41, g42, g43, g44, g45, g46, .ref a5, g47, g48, g49, g50, .ref a6, g51, g52, g53, g54, g55, g56, g57])), (a5, .inl (cB58, 6, .inl f59)), (a6, .inl (cB60, 6, .inl f61))]) [0, 1, 2, 3] (by decide) rfl
      have hK9 := hK.sub (tys' := []) [] rfl
      exact W.iret (v := 0) hx hb hr (fun t ht hW => ⟨⟨0, (), rfl, trivial, by rw [ht]; exact hP9, va_K.moved hW.alike hK9, hD9⟩, hS.F ht⟩) hS.2.2 dX12_keeps_119
    · simp only [fa_lt, fa_le, fa_eq, ltv_0] at c12
      refine lv_aload_n hx hb dX12_keeps_101 rfl (lv_at hl 1 rfl) ?_
      refine va_get (D := (dC, dI)) (ci := 9) (v := .ref a4) (C := RX12) (T := TX12) (N := 30) hx hb hts iX12_keeps_X12 hown hK hP 0 rfl rfl 3 (by decide) (hts (.fieldLink RX12 299 "HookPierModel" "pier" "LHookPierModel$Pier;") (List.mem_of_getElem? (i := 1) rfl)) (fun _ h9 => h9) rfl dX12_keeps_102 ?_
      refine va_getN (D := (dC, dI)) (ci := 8) (v := .ref a6) (C := RX11) (T := TX11) (N := 24) hx hb hts iX12_keeps_X11 hown hK hP 1 rfl rfl 16 (by decide) (va_Nw.use rfl (hN.1 (.fieldLinkNest RX12 267 "HookPierModel$Pier" "worth" "[I" "HookPierModel") (List.mem_of_getElem? (i := 38) rfl))) (fun _ h9 => h9) rfl dX12_keeps_105 ?_
      refine lv_iload_n hx hb dX12_keeps_108 rfl (lv_at hl 2 rfl) ?_
      refine va_iald hx hb hK hP 3 1 rfl rfl (vp_in_iff.mpr (by omega)) dX12_keeps_109 ?_
      refine lv_topi (fun z13 ez13 => ?_)
      clear ez13
      refine lv_iconst (v := 5) hx hb dX12_keeps_110 (by decide) ?_
      refine lv_iload hx hb dX12_keeps_111 (lv_at hl 0 rfl) ?_
      refine lv_imul hx hb dX12_keeps_113 ?_
      refine lv_topi (fun z14 ez14 => ?_)
      clear ez14
      refine lv_isub hx hb dX12_keeps_114 ?_
      refine lv_topi (fun z15 ez15 => ?_)
      clear ez15
      refine lv_goto (tgt := 119) hx hb dX12_keeps_115 (by decide) ?_
      have hP9 := hP.sub (ws' := [(a0, .inr (9, [g7, g8, g9, .ref a4, g10, g11, g12, g13, g14, g15, g16, g17, g18, g19, g20, g21, g22, g23, g24, g25, g26, g27, g28, g29, g30, g31, g32, g33, g34, g35])), (a4, .inr (8, [g36, g37, g38, g39, g40, g41, g42, g43, g44, g45, g46, .ref a5, g47, g48, g49, g50, .ref a6, g51, g52, g53, g54, g55, g56, g57])), (a5, .inl (cB58, 6, .inl f59)), (a6, .inl (cB60, 6, .inl f61))]) [0, 1, 2, 3] rfl
      have hD9 := hD.sub (ws' := [(a0, .inr (9, [g7, g8, g9, .ref a4, g10, g11, g12, g13, g14, g15, g16, g17, g18, g19, g20, g21, g22, g23, g24, g25, g26, g27, g28, g29, g30, g31, g32, g33, g34, g35])), (a4, .inr (8, [g36, g37, g38, g39, g40, g41, g42, g43, g44, g45, g46, .ref a5, g47, g48, g49, g50, .ref a6, g51, g52, g53, g54, g55, g56, g57])), (a5, .inl (cB58, 6, .inl f59)), (a6, .inl (cB60, 6, .inl f61))]) [0, 1, 2, 3] (by decide) rfl
      have hK9 := hK.sub (tys' := []) [] rfl
      exact W.iret (v := z15) hx hb hr (fun t ht hW => ⟨⟨z15, (), rfl, trivial, by rw [ht]; exact hP9, va_K.moved hW.alike hK9, hD9⟩, hS.F ht⟩) hS.2.2 dX12_keeps_119
theorem dX12_answer_0 : decode cX12_answer 0 = .ok (.aload_n 0, 1) := by decide +kernel
theorem dX12_answer_1 : decode cX12_answer 1 = .ok (.iconst 0, 1) := by decide +kernel
theorem dX12_answer_10 : decode cX12_answer 10 = .ok (.ifCond .eq 13, 3) := by decide +kernel
theorem dX12_answer_102 : decode cX12_answer 102 = .ok (.iload_n 1, 1) := by decide +kernel
theorem dX12_answer_103 : decode cX12_answer 103 = .ok (.iaload, 1) := by decide +kernel
theorem dX12_answer_104 : decode cX12_answer 104 = .ok (.invokevirtual 46, 3) := by decide +kernel
theorem dX12_answer_107 : decode cX12_answer 107 = .ok (.ireturn, 1) := by decide +kernel
theorem dX12_answer_108 : decode cX12_answer 108 = .ok (.aload_n 0, 1) := by decide +kernel
theorem dX12_answer_109 : decode cX12_answer 109 = .ok (.aload_n 0, 1) := by decide +kernel
theorem dX12_answer_110 : decode cX12_answer 110 = .ok (.getfield 299, 3) := by decide +kernel
theorem dX12_answer_113 : decode cX12_answer 113 = .ok (.getfield 261, 3) := by decide +kernel
theorem dX12_answer_116 : decode cX12_answer 116 = .ok (.iload_n 1, 1) := by decide +kernel
theorem dX12_answer_117 : decode cX12_answer 117 = .ok (.iaload, 1) := by decide +kernel
theorem dX12_answer_118 : decode cX12_answer 118 = .ok (.invokevirtual 46, 3) := by decide +kernel
theorem dX12_answer_121 : decode cX12_answer 121 = .ok (.ireturn, 1) := by decide +kernel
theorem dX12_answer_122 : decode cX12_answer 122 = .ok (.aload_n 0, 1) := by decide +kernel
theorem dX12_answer_123 : decode cX12_answer 123 = .ok (.aload_n 0, 1) := by decide +kernel
theorem dX12_answer_124 : decode cX12_answer 124 = .ok (.getfield 299, 3) := by decide +kernel
theorem dX12_answer_127 : decode cX12_answer 127 = .ok (.getfield 263, 3) := by decide +kernel
theorem dX12_answer_13 : decode cX12_answer 13 = .ok (.iload_n 2, 1) := by decide +kernel
theorem dX12_answer_130 : decode cX12_answer 130 = .ok (.iload_n 1, 1) := by decide +kernel
theorem dX12_answer_131 : decode cX12_answer 131 = .ok (.iaload, 1) := by decide +kernel
theorem dX12_answer_132 : decode cX12_answer 132 = .ok (.invokevirtual 46, 3) := by decide +kernel
theorem dX12_answer_135 : decode cX12_answer 135 = .ok (.ireturn, 1) := by decide +kernel
theorem dX12_answer_136 : decode cX12_answer 136 = .ok (.aload_n 0, 1) := by decide +kernel
theorem dX12_answer_137 : decode cX12_answer 137 = .ok (.aload_n 0, 1) := by decide +kernel
theorem dX12_answer_138 : decode cX12_answer 138 = .ok (.getfield 299, 3) := by decide +kernel
theorem dX12_answer_14 : decode cX12_answer 14 = .ok (.iconst 0, 1) := by decide +kernel
theorem dX12_answer_141 : decode cX12_answer 141 = .ok (.getfield 265, 3) := by decide +kernel
theorem dX12_answer_144 : decode cX12_answer 144 = .ok (.iload_n 1, 1) := by decide +kernel
theorem dX12_answer_145 : decode cX12_answer 145 = .ok (.iaload, 1) := by decide +kernel
theorem dX12_answer_146 : decode cX12_answer 146 = .ok (.invokevirtual 46, 3) := by decide +kernel
theorem dX12_answer_149 : decode cX12_answer 149 = .ok (.ireturn, 1) := by decide +kernel
theorem dX12_answer_15 : decode cX12_answer 15 = .ok (.bipush 9, 2) := by decide +kernel
theorem dX12_answer_150 : decode cX12_answer 150 = .ok (.aload_n 0, 1) := by decide +kernel
theorem dX12_answer_151 : decode cX12_answer 151 = .ok (.aload_n 0, 1) := by decide +kernel
theorem dX12_answer_152 : decode cX12_answer 152 = .ok (.getfield 299, 3) := by decide +kernel
theorem dX12_answer_155 : decode cX12_answer 155 = .ok (.getfield 267, 3) := by decide +kernel
theorem dX12_answer_158 : decode cX12_answer 158 = .ok (.iload_n 1, 1) := by decide +kernel
theorem dX12_answer_159 : decode cX12_answer 159 = .ok (.iaload, 1) := by decide +kernel
theorem dX12_answer_160 : decode cX12_answer 160 = .ok (.invokevirtual 46, 3) := by decide +kernel
theorem dX12_answer_163 : decode cX12_answer 163 = .ok (.ireturn, 1) := by decide +kernel
theorem dX12_answer_164 : decode cX12_answer 164 = .ok (.aload_n 0, 1) := by decide +kernel
theorem dX12_answer_165 : decode cX12_answer 165 = .ok (.aload_n 0, 1) := by decide +kernel
theorem dX12_answer_166 : decode cX12_answer 166 = .ok (.getfield 17, 3) := by decide +kernel
theorem dX12_answer_169 : decode cX12_answer 169 = .ok (.iconst 0, 1) := by decide +kernel
theorem dX12_answer_17 : decode cX12_answer 17 = .ok (.invokestatic 115, 3) := by decide +kernel
theorem dX12_answer_170 : decode cX12_answer 170 = .ok (.iload_n 1, 1) := by decide +kernel
theorem dX12_answer_171 : decode cX12_answer 171 = .ok (.iadd, 1) := by decide +kernel
theorem dX12_answer_172 : decode cX12_answer 172 = .ok (.iaload, 1) := by decide +kernel
theorem dX12_answer_173 : decode cX12_answer 173 = .ok (.invokevirtual 46, 3) := by decide +kernel
theorem dX12_answer_176 : decode cX12_answer 176 = .ok (.ireturn, 1) := by decide +kernel
theorem dX12_answer_177 : decode cX12_answer 177 = .ok (.aload_n 0, 1) := by decide +kernel
theorem dX12_answer_178 : decode cX12_answer 178 = .ok (.aload_n 0, 1) := by decide +kernel
theorem dX12_answer_179 : decode cX12_answer 179 = .ok (.getfield 17, 3) := by decide +kernel
theorem dX12_answer_182 : decode cX12_answer 182 = .ok (.bipush 6, 2) := by decide +kernel
theorem dX12_answer_184 : decode cX12_answer 184 = .ok (.iload_n 1, 1) := by decide +kernel
theorem dX12_answer_185 : decode cX12_answer 185 = .ok (.iadd, 1) := by decide +kernel
theorem dX12_answer_186 : decode cX12_answer 186 = .ok (.iaload, 1) := by decide +kernel
theorem dX12_answer_187 : decode cX12_answer 187 = .ok (.invokevirtual 46, 3) := by decide +kernel
theorem dX12_answer_190 : decode cX12_answer 190 = .ok (.ireturn, 1) := by decide +kernel
theorem dX12_answer_191 : decode cX12_answer 191 = .ok (.aload_n 0, 1) := by decide +kernel
theorem dX12_answer_192 : decode cX12_answer 192 = .ok (.aload_n 0, 1) := by decide +kernel
theorem dX12_answer_193 : decode cX12_answer 193 = .ok (.getfield 17, 3) := by decide +kernel
theorem dX12_answer_196 : decode cX12_answer 196 = .ok (.bipush 12, 2) := by decide +kernel
theorem dX12_answer_198 : decode cX12_answer 198 = .ok (.iload_n 1, 1) := by decide +kernel
theorem dX12_answer_199 : decode cX12_answer 199 = .ok (.iadd, 1) := by decide +kernel
theorem dX12_answer_2 : decode cX12_answer 2 = .ok (.putfield 36, 3) := by decide +kernel
theorem dX12_answer_20 : decode cX12_answer 20 = .ok (.ifCond .ne 9, 3) := by decide +kernel
theorem dX12_answer_200 : decode cX12_answer 200 = .ok (.iaload, 1) := by decide +kernel
theorem dX12_answer_201 : decode cX12_answer 201 = .ok (.invokevirtual 46, 3) := by decide +kernel
theorem dX12_answer_204 : decode cX12_answer 204 = .ok (.ireturn, 1) := by decide +kernel
theorem dX12_answer_205 : decode cX12_answer 205 = .ok (.aload_n 0, 1) := by decide +kernel
theorem dX12_answer_206 : decode cX12_answer 206 = .ok (.aload_n 0, 1) := by decide +kernel
theorem dX12_answer_207 : decode cX12_answer 207 = .ok (.getfield 17, 3) := by decide +kernel
theorem dX12_answer_210 : decode cX12_answer 210 = .ok (.iconst 0, 1) := by decide +kernel
theorem dX12_answer_211 : decode cX12_answer 211 = .ok (.iload_n 1, 1) := by decide +kernel
theorem dX12_answer_212 : decode cX12_answer 212 = .ok (.iadd, 1) := by decide +kernel
theorem dX12_answer_213 : decode cX12_answer 213 = .ok (.iaload, 1) := by decide +kernel
theorem dX12_answer_214 : decode cX12_answer 214 = .ok (.iconst 1, 1) := by decide +kernel
theorem dX12_answer_215 : decode cX12_answer 215 = .ok (.if_icmp .ne 27, 3) := by decide +kernel
theorem dX12_answer_218 : decode cX12_answer 218 = .ok (.aload_n 0, 1) := by decide +kernel
theorem dX12_answer_219 : decode cX12_answer 219 = .ok (.iload_n 1, 1) := by decide +kernel
theorem dX12_answer_220 : decode cX12_answer 220 = .ok (.aload_n 0, 1) := by decide +kernel
theorem dX12_answer_221 : decode cX12_answer 221 = .ok (.getfield 17, 3) := by decide +kernel
theorem dX12_answer_224 : decode cX12_answer 224 = .ok (.bipush 6, 2) := by decide +kernel
theorem dX12_answer_226 : decode cX12_answer 226 = .ok (.iload_n 1, 1) := by decide +kernel
theorem dX12_answer_227 : decode cX12_answer 227 = .ok (.iadd, 1) := by decide +kernel
theorem dX12_answer_228 : decode cX12_answer 228 = .ok (.iaload, 1) := by decide +kernel
theorem dX12_answer_229 : decode cX12_answer 229 = .ok (.aload_n 0, 1) := by decide +kernel
theorem dX12_answer_23 : decode cX12_answer 23 = .ok (.aload_n 0, 1) := by decide +kernel
theorem dX12_answer_230 : decode cX12_answer 230 = .ok (.getfield 17, 3) := by decide +kernel
theorem dX12_answer_233 : decode cX12_answer 233 = .ok (.bipush 23, 2) := by decide +kernel
theorem dX12_answer_235 : decode cX12_answer 235 = .ok (.iaload, 1) := by decide +kernel
theorem dX12_answer_236 : decode cX12_answer 236 = .ok (.invokevirtual 323, 3) := by decide +kernel
theorem dX12_answer_239 : decode cX12_answer 239 = .ok (.goto 5, 3) := by decide +kernel
theorem dX12_answer_24 : decode cX12_answer 24 = .ok (.iconst 1, 1) := by decide +kernel
theorem dX12_answer_242 : decode cX12_answer 242 = .ok (.bipush (-2), 2) := by decide +kernel
theorem dX12_answer_244 : decode cX12_answer 244 = .ok (.invokevirtual 46, 3) := by decide +kernel
theorem dX12_answer_247 : decode cX12_answer 247 = .ok (.ireturn, 1) := by decide +kernel
theorem dX12_answer_25 : decode cX12_answer 25 = .ok (.invokevirtual 42, 3) := by decide +kernel
theorem dX12_answer_28 : decode cX12_answer 28 = .ok (.ireturn, 1) := by decide +kernel
theorem dX12_answer_29 : decode cX12_answer 29 = .ok (.iload_n 2, 1) := by decide +kernel
theorem dX12_answer_30 : decode cX12_answer 30 = .ok (.tableswitch 175 0 8 #[50, 64, 78, 92, 106, 120, 134, 147, 161], 50) := by decide +kernel
theorem dX12_answer_5 : decode cX12_answer 5 = .ok (.aload_n 0, 1) := by decide +kernel
theorem dX12_answer_6 : decode cX12_answer 6 = .ok (.iload_n 1, 1) := by decide +kernel
theorem dX12_answer_7 : decode cX12_answer 7 = .ok (.invokevirtual 320, 3) := by decide +kernel
theorem dX12_answer_80 : decode cX12_answer 80 = .ok (.aload_n 0, 1) := by decide +kernel
theorem dX12_answer_81 : decode cX12_answer 81 = .ok (.aload_n 0, 1) := by decide +kernel
theorem dX12_answer_82 : decode cX12_answer 82 = .ok (.getfield 299, 3) := by decide +kernel
theorem dX12_answer_85 : decode cX12_answer 85 = .ok (.getfield 256, 3) := by decide +kernel
theorem dX12_answer_88 : decode cX12_answer 88 = .ok (.iload_n 1, 1) := by decide +kernel
theorem dX12_answer_89 : decode cX12_answer 89 = .ok (.iaload, 1) := by decide +kernel
theorem dX12_answer_90 : decode cX12_answer 90 = .ok (.invokevirtual 46, 3) := by decide +kernel
theorem dX12_answer_93 : decode cX12_answer 93 = .ok (.ireturn, 1) := by decide +kernel
theorem dX12_answer_94 : decode cX12_answer 94 = .ok (.aload_n 0, 1) := by decide +kernel
theorem dX12_answer_95 : decode cX12_answer 95 = .ok (.aload_n 0, 1) := by decide +kernel
theorem dX12_answer_96 : decode cX12_answer 96 = .ok (.getfield 299, 3) := by decide +kernel
theorem dX12_answer_99 : decode cX12_answer 99 = .ok (.getfield 259, 3) := by decide +kernel
def vX12_answer : List Cond := .code yX12_answer cX12_answer 3 (some .int) :: ([.fieldLink RX12 36 "HookPierModel" "thrown" "I", .methodLink RX12 320 yX12_isAnswer, .instanceMethod yX12_isAnswer, .selects RX12 yX12_isAnswer yX12_isAnswer, .initialized RX12, .code yX12_isAnswer cX12_isAnswer 2 (some .boolean), .fieldLink RX12 299 "HookPierModel" "pier" "LHookPierModel$Pier;", .methodLink RX12 42 yX12_refused, .instanceMethod yX12_refused, .selects RX12 yX12_refused yX12_refused, .code yX12_refused cX12_refused 2 (some .int), .fieldLink RX12 39 "HookPierModel" "trouble" "I", .fieldLink RX12 9 "HookPierModel" "where" "I", .methodLink RX12 115 yX12_in, .static yX12_in, .code yX12_in cX12_in 3 (some .boolean), .methodLink RX12 46 yX12_good, .instanceMethod yX12_good, .selects RX12 yX12_good yX12_good, .code yX12_good cX12_good 2 (some .int), .fieldLink RX12 17 "HookPierModel" "v" "[I", .methodLink RX12 323 yX12_keeps, .instanceMethod yX12_keeps, .selects RX12 yX12_keeps yX12_keeps, .code yX12_keeps cX12_keeps 5 (some .int)] ++ wsX120 ++ wsX110)
theorem iX12_answer_X12 : ∀ w ∈ wsX120, w ∈ vX12_answer := fun _ h => List.mem_cons_of_mem _ (List.mem_append_left _ (List.mem_append_right _ h))
theorem iX12_answer_X11 : ∀ w ∈ wsX110, w ∈ vX12_answer := fun _ h => List.mem_cons_of_mem _ (List.mem_append_right _ h)
set_option maxRecDepth 20000 in
theorem gX12_answer_0 : GoodIn vX12_answer (wsV RX12 320 RX12 yX12_isAnswer vX12_isAnswer) := goodIn_app (goodIn_r [.methodLink RX12 320 yX12_isAnswer, .instanceMethod yX12_isAnswer, .selects RX12 yX12_isAnswer yX12_isAnswer, .initialized RX12] [2, 3, 4, 5] (by decide +kernel) (by decide +kernel)) (goodIn_ca (goodIn_ca (goodIn_r (.code yX12_isAnswer cX12_isAnswer 2 (some .boolean) :: [.fieldLink RX12 299 "HookPierModel" "pier" "LHookPierModel$Pier;"]) [6, 7] (by decide +kernel) (by decide +kernel) : GoodIn vX12_answer (.code yX12_isAnswer cX12_isAnswer 2 (some .boolean) :: [.fieldLink RX12 299 "HookPierModel" "pier" "LHookPierModel$Pier;"])) (goodIn_sub iX12_answer_X12 (by decide +kernel))) (goodIn_sub iX12_answer_X11 (by decide +kernel)))
set_option maxRecDepth 20000 in
theorem gX12_answer_1 : GoodIn vX12_answer (wsV RX12 42 RX12 yX12_refused vX12_refused) := goodIn_app (goodIn_r [.methodLink RX12 42 yX12_refused, .instanceMethod yX12_refused, .selects RX12 yX12_refused yX12_refused, .initialized RX12] [8, 9, 10, 5] (by decide +kernel) (by decide +kernel)) (goodIn_ca (goodIn_r (.code yX12_refused cX12_refused 2 (some .int) :: [.fieldLink RX12 39 "HookPierModel" "trouble" "I", .fieldLink RX12 9 "HookPierModel" "where" "I"]) [11, 12, 13] (by decide +kernel) (by decide +kernel) : GoodIn vX12_answer (.code yX12_refused cX12_refused 2 (some .int) :: [.fieldLink RX12 39 "HookPierModel" "trouble" "I", .fieldLink RX12 9 "HookPierModel" "where" "I"])) (goodIn_sub iX12_answer_X12 (by decide +kernel)))
set_option maxRecDepth 20000 in
theorem gX12_answer_2 : GoodIn vX12_answer (va_wsS RX12 115 yX12_in vX12_in) := goodIn_app (goodIn_r [.methodLink RX12 115 yX12_in, .static yX12_in, .initialized RX12] [14, 15, 5] (by decide +kernel) (by decide +kernel)) (goodIn_r (.code yX12_in cX12_in 3 (some .boolean) :: []) [16] (by decide +kernel) (by decide +kernel) : GoodIn vX12_answer (.code yX12_in cX12_in 3 (some .boolean) :: []))
set_option maxRecDepth 20000 in
theorem gX12_answer_3 : GoodIn vX12_answer (wsV RX12 46 RX12 yX12_good vX12_good) := goodIn_app (goodIn_r [.methodLink RX12 46 yX12_good, .instanceMethod yX12_good, .selects RX12 yX12_good yX12_good, .initialized RX12] [17, 18, 19, 5] (by decide +kernel) (by decide +kernel)) (goodIn_ca (goodIn_r (.code yX12_good cX12_good 2 (some .int) :: [.fieldLink RX12 39 "HookPierModel" "trouble" "I", .fieldLink RX12 9 "HookPierModel" "where" "I"]) [20, 12, 13] (by decide +kernel) (by decide +kernel) : GoodIn vX12_answer (.code yX12_good cX12_good 2 (some .int) :: [.fieldLink RX12 39 "HookPierModel" "trouble" "I", .fieldLink RX12 9 "HookPierModel" "where" "I"])) (goodIn_sub iX12_answer_X12 (by decide +kernel)))
set_option maxRecDepth 20000 in
theorem gX12_answer_4 : GoodIn vX12_answer (wsV RX12 323 RX12 yX12_keeps vX12_keeps) := goodIn_app (goodIn_r [.methodLink RX12 323 yX12_keeps, .instanceMethod yX12_keeps, .selects RX12 yX12_keeps yX12_keeps, .initialized RX12] [22, 23, 24, 5] (by decide +kernel) (by decide +kernel)) (goodIn_ca (goodIn_ca (goodIn_r (.code yX12_keeps cX12_keeps 5 (some .int) :: [.fieldLink RX12 299 "HookPierModel" "pier" "LHookPierModel$Pier;"]) [25, 7] (by decide +kernel) (by decide +kernel) : GoodIn vX12_answer (.code yX12_keeps cX12_keeps 5 (some .int) :: [.fieldLink RX12 299 "HookPierModel" "pier" "LHookPierModel$Pier;"])) (goodIn_sub iX12_answer_X12 (by decide +kernel))) (goodIn_sub iX12_answer_X11 (by decide +kernel)))
set_option maxHeartbeats 2000000 in
set_option maxRecDepth 100000 in
theorem kX12_answer (l : Launch) (dC : Nat → ClassId) (dI : Nat → Nat → Nat) (a0 : Nat) (k1 : Int32) (k2 : Int32) (a3 : Nat) (a4 : Nat) (a5 : Nat) (a6 : Nat) (a7 : Nat) (a8 : Nat) (a9 : Nat) (a10 : Nat) (k11 : Int32) (k12 : Int32) (k13 : Int32) (g14 : Value) (g15 : Value) (g16 : Value) (g17 : Value) (g18 : Value) (g19 : Value) (g20 : Value) (g21 : Value) (g22 : Value) (g23 : Value) (g24 : Value) (g25 : Value) (g26 : Value) (g27 : Value) (g28 : Value) (g29 : Value) (g30 : Value) (g31 : Value) (g32 : Value) (g33 : Value) (g34 : Value) (g35 : Value) (g36 : Value) (g37 : Value) (g38 : Value) (g39 : Value) (g40 : Value) (g41 : Value) (g42 : Value) (g43 : Value) (g44 : Value) (k45 : Int32) (g46 : Value) (g47 : Value) (g48 : Value) (g49 : Value) (g50 : Value) (g51 : Value) (g52 : Value) (g53 : Value) (g54 : Value) (g55 : Value) (g56 : Value) (cB57 : ClassId) (f58 : Nat → Int32) (cB59 : ClassId) (f60 : Nat → Int32) (cB61 : ClassId) (f62 : Nat → Int32) (cB63 : ClassId) (f64 : Nat → Int32) (cB65 : ClassId) (f66 : Nat → Int32) (cB67 : ClassId) (f68 : Nat → Int32) (cB69 : ClassId) (f70 : Nat → Int32) (hk45 : (0 ≤ k45.toInt ∧ k45.toInt ≤ 6)) (sz : Nat) : Met l yX12_answer vX12_answer ({ frames := 1, cells := 0, slots := 0, locals := 24 }) (PC (dC, dI) [.ref a0, .int k1, .int k2] sz [(a0, .inr (9, [.int k11, .int k12, .int k13, .ref a3, g14, g15, g16, g17, g18, g19, g20, g21, g22, g23, g24, .ref a4, g25, g26, g27, g28, g29, g30, g31, g32, g33, g34, g35, g36, g37, g38])), (a3, .inr (8, [g39, g40, g41, g42, g43, g44, .int k45, g46, g47, g48, g49, .ref a5, .ref a6, .ref a7, .ref a8, .ref a9, .ref a10, g50, g51, g52, g53, g54, g55, g56])), (a4, .inl (cB57, 26, .inl f58)), (a5, .inl (cB59, 6, .inl f60)), (a6, .inl (cB61, 6, .inl f62)), (a7, .inl (cB63, 6, .inl f64)), (a8, .inl (cB65, 6, .inl f66)), (a9, .inl (cB67, 6, .inl f68)), (a10, .inl (cB69, 6, .inl f70))] [(cB57, .int), (cB59, .int), (cB61, .int), (cB63, .int), (cB65, .int), (cB67, .int), (cB69, .int)]) (va_Qi (S := Int32) (fun (r : Int32) u => True) (fun u t => BC (dC, dI) (va_A [(a0, .inr (9, [.int k11, .int k12, .int k13, .ref a3, g14, g15, g16, g17, g18, g19, g20, g21, g22, g23, g24, .ref a4, g25, g26, g27, g28, g29, g30, g31, g32, g33, g34, g35, g36, g37, g38])), (a3, .inr (8, [g39, g40, g41, g42, g43, g44, .int k45, g46, g47, g48, g49, .ref a5, .ref a6, .ref a7, .ref a8, .ref a9, .ref a10, g50, g51, g52, g53, g54, g55, g56])), (a4, .inl (cB57, 26, .inl f58)), (a5, .inl (cB59, 6, .inl f60)), (a6, .inl (cB61, 6, .inl f62)), (a7, .inl (cB63, 6, .inl f64)), (a8, .inl (cB65, 6, .inl f66)), (a9, .inl (cB67, 6, .inl f68)), (a10, .inl (cB69, 6, .inl f70))] sz) [(a0, .inr (9, [.int 0, .int u, .int (-1), .ref a3, g14, g15, g16, g17, g18, g19, g20, g21, g22, g23, g24, .ref a4, g25, g26, g27, g28, g29, g30, g31, g32, g33, g34, g35, g36, g37, g38])), (a3, .inr (8, [g39, g40, g41, g42, g43, g44, .int k45, g46, g47, g48, g49, .ref a5, .ref a6, .ref a7, .ref a8, .ref a9, .ref a10, g50, g51, g52, g53, g54, g55, g56])), (a4, .inl (cB57, 26, .inl f58)), (a5, .inl (cB59, 6, .inl f60)), (a6, .inl (cB61, 6, .inl f62)), (a7, .inl (cB63, 6, .inl f64)), (a8, .inl (cB65, 6, .inl f66)), (a9, .inl (cB67, 6, .inl f68)), (a10, .inl (cB69, 6, .inl f70))] [] t) (va_A [(a0, .inr (9, [.int k11, .int k12, .int k13, .ref a3, g14, g15, g16, g17, g18, g19, g20, g21, g22, g23, g24, .ref a4, g25, g26, g27, g28, g29, g30, g31, g32, g33, g34, g35, g36, g37, g38])), (a3, .inr (8, [g39, g40, g41, g42, g43, g44, .int k45, g46, g47, g48, g49, .ref a5, .ref a6, .ref a7, .ref a8, .ref a9, .ref a10, g50, g51, g52, g53, g54, g55, g56])), (a4, .inl (cB57, 26, .inl f58)), (a5, .inl (cB59, 6, .inl f60)), (a6, .inl (cB61, 6, .inl f62)), (a7, .inl (cB63, 6, .inl f64)), (a8, .inl (cB65, 6, .inl f66)), (a9, .inl (cB67, 6, .inl f68)), (a10, .inl (cB69, 6, .inl f70))] sz)) 0 0 (va_A [(a0, .inr (9, [.int k11, .int k12, .int k13, .ref a3, g14, g15, g16, g17, g18, g19, g20, g21, g22, g23, g24, .ref a4, g25, g26, g27, g28, g29, g30, g31, g32, g33, g34, g35, g36, g37, g38])), (a3, .inr (8, [g39, g40, g41, g42, g43, g44, .int k45, g46, g47, g48, g49, .ref a5, .ref a6, .ref a7, .ref a8, .ref a9, .ref a10, g50, g51, g52, g53, g54, g55, g56])), (a4, .inl (cB57, 26, .inl f58)), (a5, .inl (cB59, 6, .inl f60)), (a6, .inl (cB61, 6, .inl f62)), (a7, .inl (cB63, 6, .inl f64)), (a8, .inl (cB65, 6, .inl f66)), (a9, .inl (cB67, 6, .inl f68)), (a10, .inl (cB69, 6, .inl f70))] sz) := by
  refine Met.ofW (cc := cX12_answer) (maxL := 3) (ret := (some .int)) (by decide) rfl ?_
  intro p e s m args below meth c s₁ B hml hv
  obtain ⟨rfl, hsz, hP, hK, hD0, hN⟩ := hv
  have hx := B.exec
  have hb := B.bytes
  have hr := B.returns
  have hts := atoms_spec (ws := vX12_answer) B.pre
  have hown : s.vm.findClass RX12 = some m.cls := findClass_of_methodNamed B.named
  have hlocks := B.notSynchronized
  subst hsz
  have hD := hD0.self (sz := s.heap.size)
  generalize hAe : va_A [(a0, .inr (9, [.int k11, .int k12, .int k13, .ref a3, g14, g15, g16, g17, g18, g19, g20, g21, g22, g23, g24, .ref a4, g25, g26, g27, g28, g29, g30, g31, g32, g33, g34, g35, g36, g37, g38])), (a3, .inr (8, [g39, g40, g41, g42, g43, g44, .int k45, g46, g47, g48, g49, .ref a5, .ref a6, .ref a7, .ref a8, .ref a9, .ref a10, g50, g51, g52, g53, g54, g55, g56])), (a4, .inl (cB57, 26, .inl f58)), (a5, .inl (cB59, 6, .inl f60)), (a6, .inl (cB61, 6, .inl f62)), (a7, .inl (cB63, 6, .inl f64)), (a8, .inl (cB65, 6, .inl f66)), (a9, .inl (cB67, 6, .inl f68)), (a10, .inl (cB69, 6, .inl f70))] s.heap.size = A at hD ⊢
  have hA : ∀ q : Nat, s.heap.size ≤ q → A q := fun q h => by rw [← hAe]; exact Or.inr h
  have hS : va_S A s.heap s.heap [] := va_S.rf
  have hP : va_P (dC, dI) vwCl [(a0, .inr (9, [.int k11, .int k12, .int k13, .ref a3, g14, g15, g16, g17, g18, g19, g20, g21, g22, g23, g24, .ref a4, g25, g26, g27, g28, g29, g30, g31, g32, g33, g34, g35, g36, g37, g38])), (a3, .inr (8, [g39, g40, g41, g42, g43, g44, .int k45, g46, g47, g48, g49, .ref a5, .ref a6, .ref a7, .ref a8, .ref a9, .ref a10, g50, g51, g52, g53, g54, g55, g56])), (a4, .inl (cB57, 26, .inl f58)), (a5, .inl (cB59, 6, .inl f60)), (a6, .inl (cB61, 6, .inl f62)), (a7, .inl (cB63, 6, .inl f64)), (a8, .inl (cB65, 6, .inl f66)), (a9, .inl (cB67, 6, .inl f68)), (a10, .inl (cB69, 6, .inl f70))] s.heap := hP
  have hl := lv_entry ([.ref a0, .int k1, .int k2]) (n := 3) (Nat.le_of_ble_eq_true rfl)
  rw [lg_entry_eq]
  generalize (lg_sl ([.ref a0, .int k1, .int k2]) ++ List.replicate (3 - (lg_sl ([.ref a0, .int k1, .int k2])).length) Slot.unset).toArray = ls at hl ⊢
  have hl : lv_has ls 3 [(0, .ref a0), (1, .int k1), (2, .int k2)] := hl
  refine lv_aload_n hx hb dX12_answer_0 rfl (lv_at hl 0 rfl) ?_
  refine lv_iconst (v := 0) hx hb dX12_answer_1 (by decide) ?_
  refine va_put (D := (dC, dI)) (ci := 9) (v := .int 0) (ty := .int) (C := RX12) (T := TX12) (N := 30) hx hb hts iX12_answer_X12 tyX12 tyX12_ok nmX12 hown hK hP hD hS 0 rfl rfl 0 (by decide) (hts (.fieldLink RX12 36 "HookPierModel" "thrown" "I") (List.mem_of_getElem? (i := 1) rfl)) (fun _ h9 => h9) rfl (by decide +kernel) rfl rfl (Nat.le_of_ble_eq_true rfl) dX12_answer_2 (fun H locs hP hD hS => ?_)
  have hP : va_P (dC, dI) vwCl [(a0, .inr (9, [.int 0, .int k12, .int k13, .ref a3, g14, g15, g16, g17, g18, g19, g20, g21, g22, g23, g24, .ref a4, g25, g26, g27, g28, g29, g30, g31, g32, g33, g34, g35, g36, g37, g38])), (a3, .inr (8, [g39, g40, g41, g42, g43, g44, .int k45, g46, g47, g48, g49, .ref a5, .ref a6, .ref a7, .ref a8, .ref a9, .ref a10, g50, g51, g52, g53, g54, g55, g56])), (a4, .inl (cB57, 26, .inl f58)), (a5, .inl (cB59, 6, .inl f60)), (a6, .inl (cB61, 6, .inl f62)), (a7, .inl (cB63, 6, .inl f64)), (a8, .inl (cB65, 6, .inl f66)), (a9, .inl (cB67, 6, .inl f68)), (a10, .inl (cB69, 6, .inl f70))] H := hP
  have hD : va_D A [(a0, .inr (9, [.int 0, .int k12, .int k13, .ref a3, g14, g15, g16, g17, g18, g19, g20, g21, g22, g23, g24, .ref a4, g25, g26, g27, g28, g29, g30, g31, g32, g33, g34, g35, g36, g37, g38])), (a3, .inr (8, [g39, g40, g41, g42, g43, g44, .int k45, g46, g47, g48, g49, .ref a5, .ref a6, .ref a7, .ref a8, .ref a9, .ref a10, g50, g51, g52, g53, g54, g55, g56])), (a4, .inl (cB57, 26, .inl f58)), (a5, .inl (cB59, 6, .inl f60)), (a6, .inl (cB61, 6, .inl f62)), (a7, .inl (cB63, 6, .inl f64)), (a8, .inl (cB65, 6, .inl f66)), (a9, .inl (cB67, 6, .inl f68)), (a10, .inl (cB69, 6, .inl f70))] := hD
  refine lv_aload_n hx hb dX12_answer_5 rfl (lv_at hl 0 rfl) ?_
  refine lv_iload_n hx hb dX12_answer_6 rfl (lv_at hl 1 rfl) ?_
  refine cl_i (wc := [(a0, .inr (9, [.int 0, .int k12, .int k13, .ref a3, g14, g15, g16, g17, g18, g19, g20, g21, g22, g23, g24, .ref a4, g25, g26, g27, g28, g29, g30, g31, g32, g33, g34, g35, g36, g37, g38])), (a3, .inr (8, [g39, g40, g41, g42, g43, g44, .int k45, g46, g47, g48, g49, .ref a5, .ref a6, .ref a7, .ref a8, .ref a9, .ref a10, g50, g51, g52, g53, g54, g55, g56]))]) (wr := [(a4, .inl (cB57, 26, .inl f58)), (a5, .inl (cB59, 6, .inl f60)), (a6, .inl (cB61, 6, .inl f62)), (a7, .inl (cB63, 6, .inl f64)), (a8, .inl (cB65, 6, .inl f66)), (a9, .inl (cB67, 6, .inl f68)), (a10, .inl (cB69, 6, .inl f70))]) (va_runV (As := [.int k1]) (rest := []) ⟨hx, hb, hml, hown, hts⟩ (kX12_isAnswer l dC dI a0 k1 a3 (.int 0) (.int k12) (.int k13) (g14) (g15) (g16) (g17) (g18) (g19) (g20) (g21) (g22) (g23) (g24) (.ref a4) (g25) (g26) (g27) (g28) (g29) (g30) (g31) (g32) (g33) (g34) (g35) (g36) (g37) (g38) (g39) (g40) (g41) (g42) (g43) (g44) k45 (g46) (g47) (g48) (g49) (.ref a5) (.ref a6) (.ref a7) (.ref a8) (.ref a9) (.ref a10) (g50) (g51) (g52) (g53) (g54) (g55) (g56) (by first | omega | (simp only [ltv_0]; omega)) H.size) (cwV 1 hts gX12_answer_0 rfl rfl rfl (by decide +kernel) ⟨Nat.le_of_ble_eq_true rfl, Nat.le_of_ble_eq_true rfl⟩) (PV (hP.sub (ws' := [(a0, .inr (9, [.int 0, .int k12, .int k13, .ref a3, g14, g15, g16, g17, g18, g19, g20, g21, g22, g23, g24, .ref a4, g25, g26, g27, g28, g29, g30, g31, g32, g33, g34, g35, g36, g37, g38])), (a3, .inr (8, [g39, g40, g41, g42, g43, g44, .int k45, g46, g47, g48, g49, .ref a5, .ref a6, .ref a7, .ref a8, .ref a9, .ref a10, g50, g51, g52, g53, g54, g55, g56]))]) [0, 1] rfl) (hK.sub (tys' := []) [] rfl) (hD.sub (ws' := [(a0, .inr (9, [.int 0, .int k12, .int k13, .ref a3, g14, g15, g16, g17, g18, g19, g20, g21, g22, g23, g24, .ref a4, g25, g26, g27, g28, g29, g30, g31, g32, g33, g34, g35, g36, g37, g38])), (a3, .inr (8, [g39, g40, g41, g42, g43, g44, .int k45, g46, g47, g48, g49, .ref a5, .ref a6, .ref a7, .ref a8, .ref a9, .ref a10, g50, g51, g52, g53, g54, g55, g56]))]) [0, 1] (by decide) rfl) hN 0 rfl rfl) rfl rfl hl.1 rfl (lv_room (Nat.le_of_ble_eq_true rfl)) dX12_answer_7 ⟨Nat.le_of_ble_eq_true rfl, Nat.le_of_ble_eq_true rfl⟩) hP hD hK hS hA [0, 1] [2, 3, 4, 5, 6, 7, 8] rfl rfl (by decide) (by decide) (fun z1 _u H locs hw hP hD hK hS => ?_)
  have b2 := hw
  have hP : va_P (dC, dI) vwCl [(a4, .inl (cB57, 26, .inl f58)), (a5, .inl (cB59, 6, .inl f60)), (a6, .inl (cB61, 6, .inl f62)), (a7, .inl (cB63, 6, .inl f64)), (a8, .inl (cB65, 6, .inl f66)), (a9, .inl (cB67, 6, .inl f68)), (a10, .inl (cB69, 6, .inl f70)), (a0, .inr (9, [.int 0, .int k12, .int k13, .ref a3, g14, g15, g16, g17, g18, g19, g20, g21, g22, g23, g24, .ref a4, g25, g26, g27, g28, g29, g30, g31, g32, g33, g34, g35, g36, g37, g38])), (a3, .inr (8, [g39, g40, g41, g42, g43, g44, .int k45, g46, g47, g48, g49, .ref a5, .ref a6, .ref a7, .ref a8, .ref a9, .ref a10, g50, g51, g52, g53, g54, g55, g56]))] H := hP
  have hD : va_D A [(a4, .inl (cB57, 26, .inl f58)), (a5, .inl (cB59, 6, .inl f60)), (a6, .inl (cB61, 6, .inl f62)), (a7, .inl (cB63, 6, .inl f64)), (a8, .inl (cB65, 6, .inl f66)), (a9, .inl (cB67, 6, .inl f68)), (a10, .inl (cB69, 6, .inl f70)), (a0, .inr (9, [.int 0, .int k12, .int k13, .ref a3, g14, g15, g16, g17, g18, g19, g20, g21, g22, g23, g24, .ref a4, g25, g26, g27, g28, g29, g30, g31, g32, g33, g34, g35, g36, g37, g38])), (a3, .inr (8, [g39, g40, g41, g42, g43, g44, .int k45, g46, g47, g48, g49, .ref a5, .ref a6, .ref a7, .ref a8, .ref a9, .ref a10, g50, g51, g52, g53, g54, g55, g56]))] := hD
  have hK : va_K (dC, dI) vwCl [(cB57, .int), (cB59, .int), (cB61, .int), (cB63, .int), (cB65, .int), (cB67, .int), (cB69, .int)] s := hK
  rcases hw with rfl | ⟨rfl, h3, h4, h5, h6⟩
  · refine lv_if_eq (tgt := 23) hx hb dX12_answer_10 (by decide) (fun _ => ?_) (fun c7 => absurd c7 (by decide))
    refine lv_aload_n hx hb dX12_answer_23 rfl (lv_at hl 0 rfl) ?_
    refine lv_iconst (v := 1) hx hb dX12_answer_24 (by decide) ?_
    refine cl_i (wc := [(a0, .inr (9, [.int 0, .int k12, .int k13, .ref a3, g14, g15, g16, g17, g18, g19, g20, g21, g22, g23, g24, .ref a4, g25, g26, g27, g28, g29, g30, g31, g32, g33, g34, g35, g36, g37, g38]))]) (wr := [(a4, .inl (cB57, 26, .inl f58)), (a5, .inl (cB59, 6, .inl f60)), (a6, .inl (cB61, 6, .inl f62)), (a7, .inl (cB63, 6, .inl f64)), (a8, .inl (cB65, 6, .inl f66)), (a9, .inl (cB67, 6, .inl f68)), (a10, .inl (cB69, 6, .inl f70)), (a3, .inr (8, [g39, g40, g41, g42, g43, g44, .int k45, g46, g47, g48, g49, .ref a5, .ref a6, .ref a7, .ref a8, .ref a9, .ref a10, g50, g51, g52, g53, g54, g55, g56]))]) (va_runV (As := [.int 1]) (rest := []) ⟨hx, hb, hml, hown, hts⟩ (kX12_refused l dC dI a0 1 (.int 0) k12 k13 (.ref a3) (g14) (g15) (g16) (g17) (g18) (g19) (g20) (g21) (g22) (g23) (g24) (.ref a4) (g25) (g26) (g27) (g28) (g29) (g30) (g31) (g32) (g33) (g34) (g35) (g36) (g37) (g38)  H.size) (cwV 1 hts gX12_answer_1 rfl rfl rfl (by decide +kernel) ⟨Nat.le_of_ble_eq_true rfl, Nat.le_of_ble_eq_true rfl⟩) (PV (hP.sub (ws' := [(a0, .inr (9, [.int 0, .int k12, .int k13, .ref a3, g14, g15, g16, g17, g18, g19, g20, g21, g22, g23, g24, .ref a4, g25, g26, g27, g28, g29, g30, g31, g32, g33, g34, g35, g36, g37, g38]))]) [7] rfl) (hK.sub (tys' := []) [] rfl) (hD.sub (ws' := [(a0, .inr (9, [.int 0, .int k12, .int k13, .ref a3, g14, g15, g16, g17, g18, g19, g20, g21, g22, g23, g24, .ref a4, g25, g26, g27, g28, g29, g30, g31, g32, g33, g34, g35, g36, g37, g38]))]) [7] (by decide) rfl) hN 0 rfl rfl) rfl rfl hl.1 rfl (lv_room (Nat.le_of_ble_eq_true rfl)) dX12_answer_25 ⟨Nat.le_of_ble_eq_true rfl, Nat.le_of_ble_eq_true rfl⟩) hP hD hK hS hA [7] [0, 1, 2, 3, 4, 5, 6, 8] rfl rfl (by decide) (by decide) (fun z9 z8 H locs hw hP hD hK hS => ?_)
    have b10 := hw
    have hP : va_P (dC, dI) vwCl [(a4, .inl (cB57, 26, .inl f58)), (a5, .inl (cB59, 6, .inl f60)), (a6, .inl (cB61, 6, .inl f62)), (a7, .inl (cB63, 6, .inl f64)), (a8, .inl (cB65, 6, .inl f66)), (a9, .inl (cB67, 6, .inl f68)), (a10, .inl (cB69, 6, .inl f70)), (a3, .inr (8, [g39, g40, g41, g42, g43, g44, .int k45, g46, g47, g48, g49, .ref a5, .ref a6, .ref a7, .ref a8, .ref a9, .ref a10, g50, g51, g52, g53, g54, g55, g56])), (a0, .inr (9, [.int 0, .int z8, .int (-1), .ref a3, g14, g15, g16, g17, g18, g19, g20, g21, g22, g23, g24, .ref a4, g25, g26, g27, g28, g29, g30, g31, g32, g33, g34, g35, g36, g37, g38]))] H := hP
    have hD : va_D A [(a4, .inl (cB57, 26, .inl f58)), (a5, .inl (cB59, 6, .inl f60)), (a6, .inl (cB61, 6, .inl f62)), (a7, .inl (cB63, 6, .inl f64)), (a8, .inl (cB65, 6, .inl f66)), (a9, .inl (cB67, 6, .inl f68)), (a10, .inl (cB69, 6, .inl f70)), (a3, .inr (8, [g39, g40, g41, g42, g43, g44, .int k45, g46, g47, g48, g49, .ref a5, .ref a6, .ref a7, .ref a8, .ref a9, .ref a10, g50, g51, g52, g53, g54, g55, g56])), (a0, .inr (9, [.int 0, .int z8, .int (-1), .ref a3, g14, g15, g16, g17, g18, g19, g20, g21, g22, g23, g24, .ref a4, g25, g26, g27, g28, g29, g30, g31, g32, g33, g34, g35, g36, g37, g38]))] := hD
    have hK : va_K (dC, dI) vwCl [(cB57, .int), (cB59, .int), (cB61, .int), (cB63, .int), (cB65, .int), (cB67, .int), (cB69, .int)] s := hK
    obtain rfl : z9 = (-1) := hw
    have hP9 := hP.sub (ws' := [(a0, .inr (9, [.int 0, .int z8, .int (-1), .ref a3, g14, g15, g16, g17, g18, g19, g20, g21, g22, g23, g24, .ref a4, g25, g26, g27, g28, g29, g30, g31, g32, g33, g34, g35, g36, g37, g38])), (a3, .inr (8, [g39, g40, g41, g42, g43, g44, .int k45, g46, g47, g48, g49, .ref a5, .ref a6, .ref a7, .ref a8, .ref a9, .ref a10, g50, g51, g52, g53, g54, g55, g56])), (a4, .inl (cB57, 26, .inl f58)), (a5, .inl (cB59, 6, .inl f60)), (a6, .inl (cB61, 6, .inl f62)), (a7, .inl (cB63, 6, .inl f64)), (a8, .inl (cB65, 6, .inl f66)), (a9, .inl (cB67, 6, .inl f68)), (a10, .inl (cB69, 6, .inl f70))]) [8, 7, 0, 1, 2, 3, 4, 5, 6] rfl
    have hD9 := hD.sub (ws' := [(a0, .inr (9, [.int 0, .int z8, .int (-1), .ref a3, g14, g15, g16, g17, g18, g19, g20, g21, g22, g23, g24, .ref a4, g25, g26, g27, g28, g29, g30, g31, g32, g33, g34, g35, g36, g37, g38])), (a3, .inr (8, [g39, g40, g41, g42, g43, g44, .int k45, g46, g47, g48, g49, .ref a5, .ref a6, .ref a7, .ref a8, .ref a9, .ref a10, g50, g51, g52, g53, g54, g55, g56])), (a4, .inl (cB57, 26, .inl f58)), (a5, .inl (cB59, 6, .inl f60)), (a6, .inl (cB61, 6, .inl f62)), (a7, .inl (cB63, 6, .inl f64)), (a8, .inl (cB65, 6, .inl f66)), (a9, .inl (cB67, 6, .inl f68)), (a10, .inl (cB69, 6, .inl f70))]) [8, 7, 0, 1, 2, 3, 4, 5, 6] (by decide) rfl
    have hK9 := hK.sub (tys' := []) [] rfl
    exact W.iret (v := (-1)) hx hb hr (fun t ht hW => ⟨⟨(-1), z8, rfl, trivial, by rw [ht]; exact hP9, va_K.moved hW.alike hK9, hD9⟩, hS.F ht⟩) hS.2.2 dX12_answer_28
  · try simp only [ltv_0] at h3
    try simp only [ltv_0] at h4
    try simp only [ltv_0] at h5
    try simp only [ltv_0] at h6
    refine lv_if_eq (tgt := 23) hx hb dX12_answer_10 (by decide) (fun c11 => absurd c11 (by decide)) (fun _ => ?_)
    refine lv_iload_n hx hb dX12_answer_13 rfl (lv_at hl 2 rfl) ?_
    refine lv_iconst (v := 0) hx hb dX12_answer_14 (by decide) ?_
    refine lv_bipush (v := 9) hx hb dX12_answer_15 (by decide) ?_
    refine cl_i (wc := []) (wr := [(a4, .inl (cB57, 26, .inl f58)), (a5, .inl (cB59, 6, .inl f60)), (a6, .inl (cB61, 6, .inl f62)), (a7, .inl (cB63, 6, .inl f64)), (a8, .inl (cB65, 6, .inl f66)), (a9, .inl (cB67, 6, .inl f68)), (a10, .inl (cB69, 6, .inl f70)), (a0, .inr (9, [.int 0, .int k12, .int k13, .ref a3, g14, g15, g16, g17, g18, g19, g20, g21, g22, g23, g24, .ref a4, g25, g26, g27, g28, g29, g30, g31, g32, g33, g34, g35, g36, g37, g38])), (a3, .inr (8, [g39, g40, g41, g42, g43, g44, .int k45, g46, g47, g48, g49, .ref a5, .ref a6, .ref a7, .ref a8, .ref a9, .ref a10, g50, g51, g52, g53, g54, g55, g56]))]) (va_runS (As := [.int k2, .int 0, .int 9]) (rest := []) ⟨hx, hb, hml, hown, hts⟩ (kX12_in l dC dI k2 0 9  H.size) (va_cwS 3 hts gX12_answer_2 rfl rfl rfl (by decide +kernel) ⟨Nat.le_of_ble_eq_true rfl, Nat.le_of_ble_eq_true rfl⟩) (PS (hP.sub (ws' := []) [] rfl) (hK.sub (tys' := []) [] rfl) (hD.sub (ws' := []) [] (by decide) rfl) hN) rfl rfl hl.1 rfl (lv_room (Nat.le_of_ble_eq_true rfl)) dX12_answer_17 ⟨Nat.le_of_ble_eq_true rfl, Nat.le_of_ble_eq_true rfl⟩) hP hD hK hS hA [] [0, 1, 2, 3, 4, 5, 6, 7, 8] rfl rfl (by decide) (by decide) (fun z12 _u H locs hw hP hD hK hS => ?_)
    have b13 := hw
    have hP : va_P (dC, dI) vwCl [(a4, .inl (cB57, 26, .inl f58)), (a5, .inl (cB59, 6, .inl f60)), (a6, .inl (cB61, 6, .inl f62)), (a7, .inl (cB63, 6, .inl f64)), (a8, .inl (cB65, 6, .inl f66)), (a9, .inl (cB67, 6, .inl f68)), (a10, .inl (cB69, 6, .inl f70)), (a0, .inr (9, [.int 0, .int k12, .int k13, .ref a3, g14, g15, g16, g17, g18, g19, g20, g21, g22, g23, g24, .ref a4, g25, g26, g27, g28, g29, g30, g31, g32, g33, g34, g35, g36, g37, g38])), (a3, .inr (8, [g39, g40, g41, g42, g43, g44, .int k45, g46, g47, g48, g49, .ref a5, .ref a6, .ref a7, .ref a8, .ref a9, .ref a10, g50, g51, g52, g53, g54, g55, g56]))] H := hP
    have hD : va_D A [(a4, .inl (cB57, 26, .inl f58)), (a5, .inl (cB59, 6, .inl f60)), (a6, .inl (cB61, 6, .inl f62)), (a7, .inl (cB63, 6, .inl f64)), (a8, .inl (cB65, 6, .inl f66)), (a9, .inl (cB67, 6, .inl f68)), (a10, .inl (cB69, 6, .inl f70)), (a0, .inr (9, [.int 0, .int k12, .int k13, .ref a3, g14, g15, g16, g17, g18, g19, g20, g21, g22, g23, g24, .ref a4, g25, g26, g27, g28, g29, g30, g31, g32, g33, g34, g35, g36, g37, g38])), (a3, .inr (8, [g39, g40, g41, g42, g43, g44, .int k45, g46, g47, g48, g49, .ref a5, .ref a6, .ref a7, .ref a8, .ref a9, .ref a10, g50, g51, g52, g53, g54, g55, g56]))] := hD
    have hK : va_K (dC, dI) vwCl [(cB57, .int), (cB59, .int), (cB61, .int), (cB63, .int), (cB65, .int), (cB67, .int), (cB69, .int)] s := hK
    rcases hw with rfl | ⟨rfl, h14, h15⟩
    · refine lv_if_ne (tgt := 29) hx hb dX12_answer_20 (by decide) (fun c16 => absurd c16 (by decide)) (fun _ => ?_)
      refine lv_aload_n hx hb dX12_answer_23 rfl (lv_at hl 0 rfl) ?_
      refine lv_iconst (v := 1) hx hb dX12_answer_24 (by decide) ?_
      refine cl_i (wc := [(a0, .inr (9, [.int 0, .int k12, .int k13, .ref a3, g14, g15, g16, g17, g18, g19, g20, g21, g22, g23, g24, .ref a4, g25, g26, g27, g28, g29, g30, g31, g32, g33, g34, g35, g36, g37, g38]))]) (wr := [(a4, .inl (cB57, 26, .inl f58)), (a5, .inl (cB59, 6, .inl f60)), (a6, .inl (cB61, 6, .inl f62)), (a7, .inl (cB63, 6, .inl f64)), (a8, .inl (cB65, 6, .inl f66)), (a9, .inl (cB67, 6, .inl f68)), (a10, .inl (cB69, 6, .inl f70)), (a3, .inr (8, [g39, g40, g41, g42, g43, g44, .int k45, g46, g47, g48, g49, .ref a5, .ref a6, .ref a7, .ref a8, .ref a9, .ref a10, g50, g51, g52, g53, g54, g55, g56]))]) (va_runV (As := [.int 1]) (rest := []) ⟨hx, hb, hml, hown, hts⟩ (kX12_refused l dC dI a0 1 (.int 0) k12 k13 (.ref a3) (g14) (g15) (g16) (g17) (g18) (g19) (g20) (g21) (g22) (g23) (g24) (.ref a4) (g25) (g26) (g27) (g28) (g29) (g30) (g31) (g32) (g33) (g34) (g35) (g36) (g37) (g38)  H.size) (cwV 1 hts gX12_answer_1 rfl rfl rfl (by decide +kernel) ⟨Nat.le_of_ble_eq_true rfl, Nat.le_of_ble_eq_true rfl⟩) (PV (hP.sub (ws' := [(a0, .inr (9, [.int 0, .int k12, .int k13, .ref a3, g14, g15, g16, g17, g18, g19, g20, g21, g22, g23, g24, .ref a4, g25, g26, g27, g28, g29, g30, g31, g32, g33, g34, g35, g36, g37, g38]))]) [7] rfl) (hK.sub (tys' := []) [] rfl) (hD.sub (ws' := [(a0, .inr (9, [.int 0, .int k12, .int k13, .ref a3, g14, g15, g16, g17, g18, g19, g20, g21, g22, g23, g24, .ref a4, g25, g26, g27, g28, g29, g30, g31, g32, g33, g34, g35, g36, g37, g38]))]) [7] (by decide) rfl) hN 0 rfl rfl) rfl rfl hl.1 rfl (lv_room (Nat.le_of_ble_eq_true rfl)) dX12_answer_25 ⟨Nat.le_of_ble_eq_true rfl, Nat.le_of_ble_eq_true rfl⟩) hP hD hK hS hA [7] [0, 1, 2, 3, 4, 5, 6, 8] rfl rfl (by decide) (by decide) (fun z18 z17 H locs hw hP hD hK hS => ?_)
      have b19 := hw
      have hP : va_P (dC, dI) vwCl [(a4, .inl (cB57, 26, .inl f58)), (a5, .inl (cB59, 6, .inl f60)), (a6, .inl (cB61, 6, .inl f62)), (a7, .inl (cB63, 6, .inl f64)), (a8, .inl (cB65, 6, .inl f66)), (a9, .inl (cB67, 6, .inl f68)), (a10, .inl (cB69, 6, .inl f70)), (a3, .inr (8, [g39, g40, g41, g42, g43, g44, .int k45, g46, g47, g48, g49, .ref a5, .ref a6, .ref a7, .ref a8, .ref a9, .ref a10, g50, g51, g52, g53, g54, g55, g56])), (a0, .inr (9, [.int 0, .int z17, .int (-1), .ref a3, g14, g15, g16, g17, g18, g19, g20, g21, g22, g23, g24, .ref a4, g25, g26, g27, g28, g29, g30, g31, g32, g33, g34, g35, g36, g37, g38]))] H := hP
      have hD : va_D A [(a4, .inl (cB57, 26, .inl f58)), (a5, .inl (cB59, 6, .inl f60)), (a6, .inl (cB61, 6, .inl f62)), (a7, .inl (cB63, 6, .inl f64)), (a8, .inl (cB65, 6, .inl f66)), (a9, .inl (cB67, 6, .inl f68)), (a10, .inl (cB69, 6, .inl f70)), (a3, .inr (8, [g39, g40, g41, g42, g43, g44, .int k45, g46, g47, g48, g49, .ref a5, .ref a6, .ref a7, .ref a8, .ref a9, .ref a10, g50, g51, g52, g53, g54, g55, g56])), (a0, .inr (9, [.int 0, .int z17, .int (-1), .ref a3, g14, g15, g16, g17, g18, g19, g20, g21, g22, g23, g24, .ref a4, g25, g26, g27, g28, g29, g30, g31, g32, g33, g34, g35, g36, g37, g38]))] := hD
      have hK : va_K (dC, dI) vwCl [(cB57, .int), (cB59, .int), (cB61, .int), (cB63, .int), (cB65, .int), (cB67, .int), (cB69, .int)] s := hK
      obtain rfl : z18 = (-1) := hw
      have hP9 := hP.sub (ws' := [(a0, .inr (9, [.int 0, .int z17, .int (-1), .ref a3, g14, g15, g16, g17, g18, g19, g20, g21, g22, g23, g24, .ref a4, g25, g26, g27, g28, g29, g30, g31, g32, g33, g34, g35, g36, g37, g38])), (a3, .inr (8, [g39, g40, g41, g42, g43, g44, .int k45, g46, g47, g48, g49, .ref a5, .ref a6, .ref a7, .ref a8, .ref a9, .ref a10, g50, g51, g52, g53, g54, g55, g56])), (a4, .inl (cB57, 26, .inl f58)), (a5, .inl (cB59, 6, .inl f60)), (a6, .inl (cB61, 6, .inl f62)), (a7, .inl (cB63, 6, .inl f64)), (a8, .inl (cB65, 6, .inl f66)), (a9, .inl (cB67, 6, .inl f68)), (a10, .inl (cB69, 6, .inl f70))]) [8, 7, 0, 1, 2, 3, 4, 5, 6] rfl
      have hD9 := hD.sub (ws' := [(a0, .inr (9, [.int 0, .int z17, .int (-1), .ref a3, g14, g15, g16, g17, g18, g19, g20, g21, g22, g23, g24, .ref a4, g25, g26, g27, g28, g29, g30, g31, g32, g33, g34, g35, g36, g37, g38])), (a3, .inr (8, [g39, g40, g41, g42, g43, g44, .int k45, g46, g47, g48, g49, .ref a5, .ref a6, .ref a7, .ref a8, .ref a9, .ref a10, g50, g51, g52, g53, g54, g55, g56])), (a4, .inl (cB57, 26, .inl f58)), (a5, .inl (cB59, 6, .inl f60)), (a6, .inl (cB61, 6, .inl f62)), (a7, .inl (cB63, 6, .inl f64)), (a8, .inl (cB65, 6, .inl f66)), (a9, .inl (cB67, 6, .inl f68)), (a10, .inl (cB69, 6, .inl f70))]) [8, 7, 0, 1, 2, 3, 4, 5, 6] (by decide) rfl
      have hK9 := hK.sub (tys' := []) [] rfl
      exact W.iret (v := (-1)) hx hb hr (fun t ht hW => ⟨⟨(-1), z17, rfl, trivial, by rw [ht]; exact hP9, va_K.moved hW.alike hK9, hD9⟩, hS.F ht⟩) hS.2.2 dX12_answer_28
    · try simp only [ltv_0, ltv_9] at h14
      try simp only [ltv_0, ltv_9] at h15
      refine lv_if_ne (tgt := 29) hx hb dX12_answer_20 (by decide) (fun _ => ?_) (fun c20 => absurd c20 (by decide))
      refine lv_iload_n hx hb dX12_answer_29 rfl (lv_at hl 2 rfl) ?_
      rcases (show k2 = 0 ∨ k2 = 1 ∨ k2 = 2 ∨ k2 = 3 ∨ k2 = 4 ∨ k2 = 5 ∨ k2 = 6 ∨ k2 = 7 ∨ k2 = 8 ∨ (k2 < 0 ∨ 8 < k2) from (by simp only [fa_lt, fa_eq, ltv_0, ltv_1, ltv_2, ltv_3, ltv_4, ltv_5, ltv_6, ltv_7, ltv_8]; omega)) with rfl | rfl | rfl | rfl | rfl | rfl | rfl | rfl | rfl | c21
      · refine lv_tableIn (tgt := 80) hx hb dX12_answer_30 (by decide) (by decide) rfl (by decide) ?_
        refine lv_aload_n hx hb dX12_answer_80 rfl (lv_at hl 0 rfl) ?_
        refine lv_aload_n hx hb dX12_answer_81 rfl (lv_at hl 0 rfl) ?_
        refine va_get (D := (dC, dI)) (ci := 9) (v := .ref a3) (C := RX12) (T := TX12) (N := 30) hx hb hts iX12_answer_X12 hown hK hP 7 rfl rfl 3 (by decide) (hts (.fieldLink RX12 299 "HookPierModel" "pier" "LHookPierModel$Pier;") (List.mem_of_getElem? (i := 7) rfl)) (fun _ h9 => h9) rfl dX12_answer_82 ?_
        refine va_getN (D := (dC, dI)) (ci := 8) (v := .ref a5) (C := RX11) (T := TX11) (N := 24) hx hb hts iX12_answer_X11 hown hK hP 8 rfl rfl 11 (by decide) (va_Nw.use rfl (hN.1 (.fieldLinkNest RX12 256 "HookPierModel$Pier" "kind" "[I" "HookPierModel") (List.mem_of_getElem? (i := 33) rfl))) (fun _ h9 => h9) rfl dX12_answer_85 ?_
        refine lv_iload_n hx hb dX12_answer_88 rfl (lv_at hl 1 rfl) ?_
        refine va_iald hx hb hK hP 1 1 rfl rfl (vp_in_iff.mpr (by omega)) dX12_answer_89 ?_
        refine lv_topi (fun z22 ez22 => ?_)
        clear ez22
        refine cl_i (wc := [(a0, .inr (9, [.int 0, .int k12, .int k13, .ref a3, g14, g15, g16, g17, g18, g19, g20, g21, g22, g23, g24, .ref a4, g25, g26, g27, g28, g29, g30, g31, g32, g33, g34, g35, g36, g37, g38]))]) (wr := [(a4, .inl (cB57, 26, .inl f58)), (a5, .inl (cB59, 6, .inl f60)), (a6, .inl (cB61, 6, .inl f62)), (a7, .inl (cB63, 6, .inl f64)), (a8, .inl (cB65, 6, .inl f66)), (a9, .inl (cB67, 6, .inl f68)), (a10, .inl (cB69, 6, .inl f70)), (a3, .inr (8, [g39, g40, g41, g42, g43, g44, .int k45, g46, g47, g48, g49, .ref a5, .ref a6, .ref a7, .ref a8, .ref a9, .ref a10, g50, g51, g52, g53, g54, g55, g56]))]) (va_runV (As := [.int z22]) (rest := []) ⟨hx, hb, hml, hown, hts⟩ (kX12_good l dC dI a0 z22 (.int 0) k12 k13 (.ref a3) (g14) (g15) (g16) (g17) (g18) (g19) (g20) (g21) (g22) (g23) (g24) (.ref a4) (g25) (g26) (g27) (g28) (g29) (g30) (g31) (g32) (g33) (g34) (g35) (g36) (g37) (g38)  H.size) (cwV 1 hts gX12_answer_3 rfl rfl rfl (by decide +kernel) ⟨Nat.le_of_ble_eq_true rfl, Nat.le_of_ble_eq_true rfl⟩) (PV (hP.sub (ws' := [(a0, .inr (9, [.int 0, .int k12, .int k13, .ref a3, g14, g15, g16, g17, g18, g19, g20, g21, g22, g23, g24, .ref a4, g25, g26, g27, g28, g29, g30, g31, g32, g33, g34, g35, g36, g37, g38]))]) [7] rfl) (hK.sub (tys' := []) [] rfl) (hD.sub (ws' := [(a0, .inr (9, [.int 0, .int k12, .int k13, .ref a3, g14, g15, g16, g17, g18, g19, g20, g21, g22, g23, g24, .ref a4, g25, g26, g27, g28, g29, g30, g31, g32, g33, g34, g35, g36, g37, g38]))]) [7] (by decide) rfl) hN 0 rfl rfl) rfl rfl hl.1 rfl (lv_room (Nat.le_of_ble_eq_true rfl)) dX12_answer_90 ⟨Nat.le_of_ble_eq_true rfl, Nat.le_of_ble_eq_true rfl⟩) hP hD hK hS hA [7] [0, 1, 2, 3, 4, 5, 6, 8] rfl rfl (by decide) (by decide) (fun z23 _u H locs hw hP hD hK hS => ?_)
        have b24 := hw
        have hP : va_P (dC, dI) vwCl [(a4, .inl (cB57, 26, .inl f58)), (a5, .inl (cB59, 6, .inl f60)), (a6, .inl (cB61, 6, .inl f62)), (a7, .inl (cB63, 6, .inl f64)), (a8, .inl (cB65, 6, .inl f66)), (a9, .inl (cB67, 6, .inl f68)), (a10, .inl (cB69, 6, .inl f70)), (a3, .inr (8, [g39, g40, g41, g42, g43, g44, .int k45, g46, g47, g48, g49, .ref a5, .ref a6, .ref a7, .ref a8, .ref a9, .ref a10, g50, g51, g52, g53, g54, g55, g56])), (a0, .inr (9, [.int 0, .int 0, .int (-1), .ref a3, g14, g15, g16, g17, g18, g19, g20, g21, g22, g23, g24, .ref a4, g25, g26, g27, g28, g29, g30, g31, g32, g33, g34, g35, g36, g37, g38]))] H := hP
        have hD : va_D A [(a4, .inl (cB57, 26, .inl f58)), (a5, .inl (cB59, 6, .inl f60)), (a6, .inl (cB61, 6, .inl f62)), (a7, .inl (cB63, 6, .inl f64)), (a8, .inl (cB65, 6, .inl f66)), (a9, .inl (cB67, 6, .inl f68)), (a10, .inl (cB69, 6, .inl f70)), (a3, .inr (8, [g39, g40, g41, g42, g43, g44, .int k45, g46, g47, g48, g49, .ref a5, .ref a6, .ref a7, .ref a8, .ref a9, .ref a10, g50, g51, g52, g53, g54, g55, g56])), (a0, .inr (9, [.int 0, .int 0, .int (-1), .ref a3, g14, g15, g16, g17, g18, g19, g20, g21, g22, g23, g24, .ref a4, g25, g26, g27, g28, g29, g30, g31, g32, g33, g34, g35, g36, g37, g38]))] := hD
        have hK : va_K (dC, dI) vwCl [(cB57, .int), (cB59, .int), (cB61, .int), (cB63, .int), (cB65, .int), (cB67, .int), (cB69, .int)] s := hK
        have hP9 := hP.sub (ws' := [(a0, .inr (9, [.int 0, .int 0, .int (-1), .ref a3, g14, g15, g16, g17, g18, g19, g20, g21, g22, g23, g24, .ref a4, g25, g26, g27, g28, g29, g30, g31, g32, g33, g34, g35, g36, g37, g38])), (a3, .inr (8, [g39, g40, g41, g42, g43, g44, .int k45, g46, g47, g48, g49, .ref a5, .ref a6, .ref a7, .ref a8, .ref a9, .ref a10, g50, g51, g52, g53, g54, g55, g56])), (a4, .inl (cB57, 26, .inl f58)), (a5, .inl (cB59, 6, .inl f60)), (a6, .inl (cB61, 6, .inl f62)), (a7, .inl (cB63, 6, .inl f64)), (a8, .inl (cB65, 6, .inl f66)), (a9, .inl (cB67, 6, .inl f68)), (a10, .inl (cB69, 6, .inl f70))]) [8, 7, 0, 1, 2, 3, 4, 5, 6] rfl
        have hD9 := hD.sub (ws' := [(a0, .inr (9, [.int 0, .int 0, .int (-1), .ref a3, g14, g15, g16, g17, g18, g19, g20, g21, g22, g23, g24, .ref a4, g25, g26, g27, g28, g29, g30, g31, g32, g33, g34, g35, g36, g37, g38])), (a3, .inr (8, [g39, g40, g41, g42, g43, g44, .int k45, g46, g47, g48, g49, .ref a5, .ref a6, .ref a7, .ref a8, .ref a9, .ref a10, g50, g51, g52, g53, g54, g55, g56])), (a4, .inl (cB57, 26, .inl f58)), (a5, .inl (cB59, 6, .inl f60)), (a6, .inl (cB61, 6, .inl f62)), (a7, .inl (cB63, 6, .inl f64)), (a8, .inl (cB65, 6, .inl f66)), (a9, .inl (cB67, 6, .inl f68)), (a10, .inl (cB69, 6, .inl f70))]) [8, 7, 0, 1, 2, 3, 4, 5, 6] (by decide) rfl
        have hK9 := hK.sub (tys' := []) [] rfl
        exact W.iret (v := z23) hx hb hr (fun t ht hW => ⟨⟨z23, 0, rfl, trivial, by rw [ht]; exact hP9, va_K.moved hW.alike hK9, hD9⟩, hS.F ht⟩) hS.2.2 dX12_answer_93
      · refine lv_tableIn (tgt := 94) hx hb dX12_answer_30 (by decide) (by decide) rfl (by decide) ?_
        refine lv_aload_n hx hb dX12_answer_94 rfl (lv_at hl 0 rfl) ?_
        refine lv_aload_n hx hb dX12_answer_95 rfl (lv_at hl 0 rfl) ?_
        refine va_get (D := (dC, dI)) (ci := 9) (v := .ref a3) (C := RX12) (T := TX12) (N := 30) hx hb hts iX12_answer_X12 hown hK hP 7 rfl rfl 3 (by decide) (hts (.fieldLink RX12 299 "HookPierModel" "pier" "LHookPierModel$Pier;") (List.mem_of_getElem? (i := 7) rfl)) (fun _ h9 => h9) rfl dX12_answer_96 ?_
        refine va_getN (D := (dC, dI)) (ci := 8) (v := .ref a6) (C := RX11) (T := TX11) (N := 24) hx hb hts iX12_answer_X11 hown hK hP 8 rfl rfl 12 (by decide) (va_Nw.use rfl (hN.1 (.fieldLinkNest RX12 259 "HookPierModel$Pier" "spot" "[I" "HookPierModel") (List.mem_of_getElem? (i := 34) rfl))) (fun _ h9 => h9) rfl dX12_answer_99 ?_
        refine lv_iload_n hx hb dX12_answer_102 rfl (lv_at hl 1 rfl) ?_
        refine va_iald hx hb hK hP 2 2 rfl rfl (vp_in_iff.mpr (by omega)) dX12_answer_103 ?_
        refine lv_topi (fun z25 ez25 => ?_)
        clear ez25
        refine cl_i (wc := [(a0, .inr (9, [.int 0, .int k12, .int k13, .ref a3, g14, g15, g16, g17, g18, g19, g20, g21, g22, g23, g24, .ref a4, g25, g26, g27, g28, g29, g30, g31, g32, g33, g34, g35, g36, g37, g38]))]) (wr := [(a4, .inl (cB57, 26, .inl f58)), (a5, .inl (cB59, 6, .inl f60)), (a6, .inl (cB61, 6, .inl f62)), (a7, .inl (cB63, 6, .inl f64)), (a8, .inl (cB65, 6, .inl f66)), (a9, .inl (cB67, 6, .inl f68)), (a10, .inl (cB69, 6, .inl f70)), (a3, .inr (8, [g39, g40, g41, g42, g43, g44, .int k45, g46, g47, g48, g49, .ref a5, .ref a6, .ref a7, .ref a8, .ref a9, .ref a10, g50, g51, g52, g53, g54, g55, g56]))]) (va_runV (As := [.int z25]) (rest := []) ⟨hx, hb, hml, hown, hts⟩ (kX12_good l dC dI a0 z25 (.int 0) k12 k13 (.ref a3) (g14) (g15) (g16) (g17) (g18) (g19) (g20) (g21) (g22) (g23) (g24) (.ref a4) (g25) (g26) (g27) (g28) (g29) (g30) (g31) (g32) (g33) (g34) (g35) (g36) (g37) (g38)  H.size) (cwV 1 hts gX12_answer_3 rfl rfl rfl (by decide +kernel) ⟨Nat.le_of_ble_eq_true rfl, Nat.le_of_ble_eq_true rfl⟩) (PV (hP.sub (ws' := [(a0, .inr (9, [.int 0, .int k12, .int k13, .ref a3, g14, g15, g16, g17, g18, g19, g20, g21, g22, g23, g24, .ref a4, g25, g26, g27, g28, g29, g30, g31, g32, g33, g34, g35, g36, g37, g38]))]) [7] rfl) (hK.sub (tys' := []) [] rfl) (hD.sub (ws' := [(a0, .inr (9, [.int 0, .int k12, .int k13, .ref a3, g14, g15, g16, g17, g18, g19, g20, g21, g22, g23, g24, .ref a4, g25, g26, g27, g28, g29, g30, g31, g32, g33, g34, g35, g36, g37, g38]))]) [7] (by decide) rfl) hN 0 rfl rfl) rfl rfl hl.1 rfl (lv_room (Nat.le_of_ble_eq_true rfl)) dX12_answer_104 ⟨Nat.le_of_ble_eq_true rfl, Nat.le_of_ble_eq_true rfl⟩) hP hD hK hS hA [7] [0, 1, 2, 3, 4, 5, 6, 8] rfl rfl (by decide) (by decide) (fun z26 _u H locs hw hP hD hK hS => ?_)
        have b27 := hw
        have hP : va_P (dC, dI) vwCl [(a4, .inl (cB57, 26, .inl f58)), (a5, .inl (cB59, 6, .inl f60)), (a6, .inl (cB61, 6, .inl f62)), (a7, .inl (cB63, 6, .inl f64)), (a8, .inl (cB65, 6, .inl f66)), (a9, .inl (cB67, 6, .inl f68)), (a10, .inl (cB69, 6, .inl f70)), (a3, .inr (8, [g39, g40, g41, g42, g43, g44, .int k45, g46, g47, g48, g49, .ref a5, .ref a6, .ref a7, .ref a8, .ref a9, .ref a10, g50, g51, g52, g53, g54, g55, g56])), (a0, .inr (9, [.int 0, .int 0, .int (-1), .ref a3, g14, g15, g16, g17, g18, g19, g20, g21, g22, g23, g24, .ref a4, g25, g26, g27, g28, g29, g30, g31, g32, g33, g34, g35, g36, g37, g38]))] H := hP
        have hD : va_D A [(a4, .inl (cB57, 26, .inl f58)), (a5, .inl (cB59, 6, .inl f60)), (a6, .inl (cB61, 6, .inl f62)), (a7, .inl (cB63, 6, .inl f64)), (a8, .inl (cB65, 6, .inl f66)), (a9, .inl (cB67, 6, .inl f68)), (a10, .inl (cB69, 6, .inl f70)), (a3, .inr (8, [g39, g40, g41, g42, g43, g44, .int k45, g46, g47, g48, g49, .ref a5, .ref a6, .ref a7, .ref a8, .ref a9, .ref a10, g50, g51, g52, g53, g54, g55, g56])), (a0, .inr (9, [.int 0, .int 0, .int (-1), .ref a3, g14, g15, g16, g17, g18, g19, g20, g21, g22, g23, g24, .ref a4, g25, g26, g27, g28, g29, g30, g31, g32, g33, g34, g35, g36, g37, g38]))] := hD
        have hK : va_K (dC, dI) vwCl [(cB57, .int), (cB59, .int), (cB61, .int), (cB63, .int), (cB65, .int), (cB67, .int), (cB69, .int)] s := hK
        have hP9 := hP.sub (ws' := [(a0, .inr (9, [.int 0, .int 0, .int (-1), .ref a3, g14, g15, g16, g17, g18, g19, g20, g21, g22, g23, g24, .ref a4, g25, g26, g27, g28, g29, g30, g31, g32, g33, g34, g35, g36, g37, g38])), (a3, .inr (8, [g39, g40, g41, g42, g43, g44, .int k45, g46, g47, g48, g49, .ref a5, .ref a6, .ref a7, .ref a8, .ref a9, .ref a10, g50, g51, g52, g53, g54, g55, g56])), (a4, .inl (cB57, 26, .inl f58)), (a5, .inl (cB59, 6, .inl f60)), (a6, .inl (cB61, 6, .inl f62)), (a7, .inl (cB63, 6, .inl f64)), (a8, .inl (cB65, 6, .inl f66)), (a9, .inl (cB67, 6, .inl f68)), (a10, .inl (cB69, 6, .inl f70))]) [8, 7, 0, 1, 2, 3, 4, 5, 6] rfl
        have hD9 := hD.sub (ws' := [(a0, .inr (9, [.int 0, .int 0, .int (-1), .ref a3, g14, g15, g16, g17, g18, g19, g20, g21, g22, g23, g24, .ref a4, g25, g26, g27, g28, g29, g30, g31, g32, g33, g34, g35, g36, g37, g38])), (a3, .inr (8, [g39, g40, g41, g42, g43, g44, .int k45, g46, g47, g48, g49, .ref a5, .ref a6, .ref a7, .ref a8, .ref a9, .ref a10, g50, g51, g52, g53, g54, g55, g56])), (a4, .inl (cB57, 26, .inl f58)), (a5, .inl (cB59, 6, .inl f60)), (a6, .inl (cB61, 6, .inl f62)), (a7, .inl (cB63, 6, .inl f64)), (a8, .inl (cB65, 6, .inl f66)), (a9, .inl (cB67, 6, .inl f68)), (a10, .inl (cB69, 6, .inl f70))]) [8, 7, 0, 1, 2, 3, 4, 5, 6] (by decide) rfl
        have hK9 := hK.sub (tys' := []) [] rfl
        exact W.iret (v := z26) hx hb hr (fun t ht hW => ⟨⟨z26, 0, rfl, trivial, by rw [ht]; exact hP9, va_K.moved hW.alike hK9, hD9⟩, hS.F ht⟩) hS.2.2 dX12_answer_107
      · refine lv_tableIn (tgt := 108) hx hb dX12_answer_30 (by decide) (by decide) rfl (by decide) ?_
        refine lv_aload_n hx hb dX12_answer_108 rfl (lv_at hl 0 rfl) ?_
        refine lv_aload_n hx hb dX12_answer_109 rfl (lv_at hl 0 rfl) ?_
        refine va_get (D := (dC, dI)) (ci := 9) (v := .ref a3) (C := RX12) (T := TX12) (N := 30) hx hb hts iX12_answer_X12 hown hK hP 7 rfl rfl 3 (by decide) (hts (.fieldLink RX12 299 "HookPierModel" "pier" "LHookPierModel$Pier;") (List.mem_of_getElem? (i := 7) rfl)) (fun _ h9 => h9) rfl dX12_answer_110 ?_
        refine va_getN (D := (dC, dI)) (ci := 8) (v := .ref a7) (C := RX11) (T := TX11) (N := 24) hx hb hts iX12_answer_X11 hown hK hP 8 rfl rfl 13 (by decide) (va_Nw.use rfl (hN.1 (.fieldLinkNest RX12 261 "HookPierModel$Pier" "depth" "[I" "HookPierModel") (List.mem_of_getElem? (i := 35) rfl))) (fun _ h9 => h9) rfl dX12_answer_113 ?_
        refine lv_iload_n hx hb dX12_answer_116 rfl (lv_at hl 1 rfl) ?_
        refine va_iald hx hb hK hP 3 3 rfl rfl (vp_in_iff.mpr (by omega)) dX12_answer_117 ?_
        refine lv_topi (fun z28 ez28 => ?_)
        clear ez28
        refine cl_i (wc := [(a0, .inr (9, [.int 0, .int k12, .int k13, .ref a3, g14, g15, g16, g17, g18, g19, g20, g21, g22, g23, g24, .ref a4, g25, g26, g27, g28, g29, g30, g31, g32, g33, g34, g35, g36, g37, g38]))]) (wr := [(a4, .inl (cB57, 26, .inl f58)), (a5, .inl (cB59, 6, .inl f60)), (a6, .inl (cB61, 6, .inl f62)), (a7, .inl (cB63, 6, .inl f64)), (a8, .inl (cB65, 6, .inl f66)), (a9, .inl (cB67, 6, .inl f68)), (a10, .inl (cB69, 6, .inl f70)), (a3, .inr (8, [g39, g40, g41, g42, g43, g44, .int k45, g46, g47, g48, g49, .ref a5, .ref a6, .ref a7, .ref a8, .ref a9, .ref a10, g50, g51, g52, g53, g54, g55, g56]))]) (va_runV (As := [.int z28]) (rest := []) ⟨hx, hb, hml, hown, hts⟩ (kX12_good l dC dI a0 z28 (.int 0) k12 k13 (.ref a3) (g14) (g15) (g16) (g17) (g18) (g19) (g20) (g21) (g22) (g23) (g24) (.ref a4) (g25) (g26) (g27) (g28) (g29) (g30) (g31) (g32) (g33) (g34) (g35) (g36) (g37) (g38)  H.size) (cwV 1 hts gX12_answer_3 rfl rfl rfl (by decide +kernel) ⟨Nat.le_of_ble_eq_true rfl, Nat.le_of_ble_eq_true rfl⟩) (PV (hP.sub (ws' := [(a0, .inr (9, [.int 0, .int k12, .int k13, .ref a3, g14, g15, g16, g17, g18, g19, g20, g21, g22, g23, g24, .ref a4, g25, g26, g27, g28, g29, g30, g31, g32, g33, g34, g35, g36, g37, g38]))]) [7] rfl) (hK.sub (tys' := []) [] rfl) (hD.sub (ws' := [(a0, .inr (9, [.int 0, .int k12, .int k13, .ref a3, g14, g15, g16, g17, g18, g19, g20, g21, g22, g23, g24, .ref a4, g25, g26, g27, g28, g29, g30, g31, g32, g33, g34, g35, g36, g37, g38]))]) [7] (by decide) rfl) hN 0 rfl rfl) rfl rfl hl.1 rfl (lv_room (Nat.le_of_ble_eq_true rfl)) dX12_answer_118 ⟨Nat.le_of_ble_eq_true rfl, Nat.le_of_ble_eq_true rfl⟩) hP hD hK hS hA [7] [0, 1, 2, 3, 4, 5, 6, 8] rfl rfl (by decide) (by decide) (fun z29 _u H locs hw hP hD hK hS => ?_)
        have b30 := hw
        have hP : va_P (dC, dI) vwCl [(a4, .inl (cB57, 26, .inl f58)), (a5, .inl (cB59, 6, .inl f60)), (a6, .inl (cB61, 6, .inl f62)), (a7, .inl (cB63, 6, .inl f64)), (a8, .inl (cB65, 6, .inl f66)), (a9, .inl (cB67, 6, .inl f68)), (a10, .inl (cB69, 6, .inl f70)), (a3, .inr (8, [g39, g40, g41, g42, g43, g44, .int k45, g46, g47, g48, g49, .ref a5, .ref a6, .ref a7, .ref a8, .ref a9, .ref a10, g50, g51, g52, g53, g54, g55, g56])), (a0, .inr (9, [.int 0, .int 0, .int (-1), .ref a3, g14, g15, g16, g17, g18, g19, g20, g21, g22, g23, g24, .ref a4, g25, g26, g27, g28, g29, g30, g31, g32, g33, g34, g35, g36, g37, g38]))] H := hP
        have hD : va_D A [(a4, .inl (cB57, 26, .inl f58)), (a5, .inl (cB59, 6, .inl f60)), (a6, .inl (cB61, 6, .inl f62)), (a7, .inl (cB63, 6, .inl f64)), (a8, .inl (cB65, 6, .inl f66)), (a9, .inl (cB67, 6, .inl f68)), (a10, .inl (cB69, 6, .inl f70)), (a3, .inr (8, [g39, g40, g41, g42, g43, g44, .int k45, g46, g47, g48, g49, .ref a5, .ref a6, .ref a7, .ref a8, .ref a9, .ref a10, g50, g51, g52, g53, g54, g55, g56])), (a0, .inr (9, [.int 0, .int 0, .int (-1), .ref a3, g14, g15, g16, g17, g18, g19, g20, g21, g22, g23, g24, .ref a4, g25, g26, g27, g28, g29, g30, g31, g32, g33, g34, g35, g36, g37, g38]))] := hD
        have hK : va_K (dC, dI) vwCl [(cB57, .int), (cB59, .int), (cB61, .int), (cB63, .int), (cB65, .int), (cB67, .int), (cB69, .int)] s := hK
        have hP9 := hP.sub (ws' := [(a0, .inr (9, [.int 0, .int 0, .int (-1), .ref a3, g14, g15, g16, g17, g18, g19, g20, g21, g22, g23, g24, .ref a4, g25, g26, g27, g28, g29, g30, g31, g32, g33, g34, g35, g36, g37, g38])), (a3, .inr (8, [g39, g40, g41, g42, g43, g44, .int k45, g46, g47, g48, g49, .ref a5, .ref a6, .ref a7, .ref a8, .ref a9, .ref a10, g50, g51, g52, g53, g54, g55, g56])), (a4, .inl (cB57, 26, .inl f58)), (a5, .inl (cB59, 6, .inl f60)), (a6, .inl (cB61, 6, .inl f62)), (a7, .inl (cB63, 6, .inl f64)), (a8, .inl (cB65, 6, .inl f66)), (a9, .inl (cB67, 6, .inl f68)), (a10, .inl (cB69, 6, .inl f70))]) [8, 7, 0, 1, 2, 3, 4, 5, 6] rfl
        have hD9 := hD.sub (ws' := [(a0, .inr (9, [.int 0, .int 0, .int (-1), .ref a3, g14, g15, g16, g17, g18, g19, g20, g21, g22, g23, g24, .ref a4, g25, g26, g27, g28, g29, g30, g31, g32, g33, g34, g35, g36, g37, g38])), (a3, .inr (8, [g39, g40, g41, g42, g43, g44, .int k45, g46, g47, g48, g49, .ref a5, .ref a6, .ref a7, .ref a8, .ref a9, .ref a10, g50, g51, g52, g53, g54, g55, g56])), (a4, .inl (cB57, 26, .inl f58)), (a5, .inl (cB59, 6, .inl f60)), (a6, .inl (cB61, 6, .inl f62)), (a7, .inl (cB63, 6, .inl f64)), (a8, .inl (cB65, 6, .inl f66)), (a9, .inl (cB67, 6, .inl f68)), (a10, .inl (cB69, 6, .inl f70))]) [8, 7, 0, 1, 2, 3, 4, 5, 6] (by decide) rfl
        have hK9 := hK.sub (tys' := []) [] rfl
        exact W.iret (v := z29) hx hb hr (fun t ht hW => ⟨⟨z29, 0, rfl, trivial, by rw [ht]; exact hP9, va_K.moved hW.alike hK9, hD9⟩, hS.F ht⟩) hS.2.2 dX12_answer_121
      · refine lv_tableIn (tgt := 122) hx hb dX12_answer_30 (by decide) (by decide) rfl (by decide) ?_
        refine lv_aload_n hx hb dX12_answer_122 rfl (lv_at hl 0 rfl) ?_
        refine lv_aload_n hx hb dX12_answer_123 rfl (lv_at hl 0 rfl) ?_
        refine va_get (D := (dC, dI)) (ci := 9) (v := .ref a3) (C := RX12) (T := TX12) (N := 30) hx hb hts iX12_answer_X12 hown hK hP 7 rfl rfl 3 (by decide) (hts (.fieldLink RX12 299 "HookPierModel" "pier" "LHookPierModel$Pier;") (List.mem_of_getElem? (i := 7) rfl)) (fun _ h9 => h9) rfl dX12_answer_124 ?_
        refine va_getN (D := (dC, dI)) (ci := 8) (v := .ref a8) (C := RX11) (T := TX11) (N := 24) hx hb hts iX12_answer_X11 hown hK hP 8 rfl rfl 14 (by decide) (va_Nw.use rfl (hN.1 (.fieldLinkNest RX12 263 "HookPierModel$Pier" "hunger" "[I" "HookPierModel") (List.mem_of_getElem? (i := 36) rfl))) (fun _ h9 => h9) rfl dX12_answer_127 ?_
        refine lv_iload_n hx hb dX12_answer_130 rfl (lv_at hl 1 rfl) ?_
        refine va_iald hx hb hK hP 4 4 rfl rfl (vp_in_iff.mpr (by omega)) dX12_answer_131 ?_
        refine lv_topi (fun z31 ez31 => ?_)
        clear ez31
        refine cl_i (wc := [(a0, .inr (9, [.int 0, .int k12, .int k13, .ref a3, g14, g15, g16, g17, g18, g19, g20, g21, g22, g23, g24, .ref a4, g25, g26, g27, g28, g29, g30, g31, g32, g33, g34, g35, g36, g37, g38]))]) (wr := [(a4, .inl (cB57, 26, .inl f58)), (a5, .inl (cB59, 6, .inl f60)), (a6, .inl (cB61, 6, .inl f62)), (a7, .inl (cB63, 6, .inl f64)), (a8, .inl (cB65, 6, .inl f66)), (a9, .inl (cB67, 6, .inl f68)), (a10, .inl (cB69, 6, .inl f70)), (a3, .inr (8, [g39, g40, g41, g42, g43, g44, .int k45, g46, g47, g48, g49, .ref a5, .ref a6, .ref a7, .ref a8, .ref a9, .ref a10, g50, g51, g52, g53, g54, g55, g56]))]) (va_runV (As := [.int z31]) (rest := []) ⟨hx, hb, hml, hown, hts⟩ (kX12_good l dC dI a0 z31 (.int 0) k12 k13 (.ref a3) (g14) (g15) (g16) (g17) (g18) (g19) (g20) (g21) (g22) (g23) (g24) (.ref a4) (g25) (g26) (g27) (g28) (g29) (g30) (g31) (g32) (g33) (g34) (g35) (g36) (g37) (g38)  H.size) (cwV 1 hts gX12_answer_3 rfl rfl rfl (by decide +kernel) ⟨Nat.le_of_ble_eq_true rfl, Nat.le_of_ble_eq_true rfl⟩) (PV (hP.sub (ws' := [(a0, .inr (9, [.int 0, .int k12, .int k13, .ref a3, g14, g15, g16, g17, g18, g19, g20, g21, g22, g23, g24, .ref a4, g25, g26, g27, g28, g29, g30, g31, g32, g33, g34, g35, g36, g37, g38]))]) [7] rfl) (hK.sub (tys' := []) [] rfl) (hD.sub (ws' := [(a0, .inr (9, [.int 0, .int k12, .int k13, .ref a3, g14, g15, g16, g17, g18, g19, g20, g21, g22, g23, g24, .ref a4, g25, g26, g27, g28, g29, g30, g31, g32, g33, g34, g35, g36, g37, g38]))]) [7] (by decide) rfl) hN 0 rfl rfl) rfl rfl hl.1 rfl (lv_room (Nat.le_of_ble_eq_true rfl)) dX12_answer_132 ⟨Nat.le_of_ble_eq_true rfl, Nat.le_of_ble_eq_true rfl⟩) hP hD hK hS hA [7] [0, 1, 2, 3, 4, 5, 6, 8] rfl rfl (by decide) (by decide) (fun z32 _u H locs hw hP hD hK hS => ?_)
        have b33 := hw
        have hP : va_P (dC, dI) vwCl [(a4, .inl (cB57, 26, .inl f58)), (a5, .inl (cB59, 6, .inl f60)), (a6, .inl (cB61, 6, .inl f62)), (a7, .inl (cB63, 6, .inl f64)), (a8, .inl (cB65, 6, .inl f66)), (a9, .inl (cB67, 6, .inl f68)), (a10, .inl (cB69, 6, .inl f70)), (a3, .inr (8, [g39, g40, g41, g42, g43, g44, .int k45, g46, g47, g48, g49, .ref a5, .ref a6, .ref a7, .ref a8, .ref a9, .ref a10, g50, g51, g52, g53, g54, g55, g56])), (a0, .inr (9, [.int 0, .int 0, .int (-1), .ref a3, g14, g15, g16, g17, g18, g19, g20, g21, g22, g23, g24, .ref a4, g25, g26, g27, g28, g29, g30, g31, g32, g33, g34, g35, g36, g37, g38]))] H := hP
        have hD : va_D A [(a4, .inl (cB57, 26, .inl f58)), (a5, .inl (cB59, 6, .inl f60)), (a6, .inl (cB61, 6, .inl f62)), (a7, .inl (cB63, 6, .inl f64)), (a8, .inl (cB65, 6, .inl f66)), (a9, .inl (cB67, 6, .inl f68)), (a10, .inl (cB69, 6, .inl f70)), (a3, .inr (8, [g39, g40, g41, g42, g43, g44, .int k45, g46, g47, g48, g49, .ref a5, .ref a6, .ref a7, .ref a8, .ref a9, .ref a10, g50, g51, g52, g53, g54, g55, g56])), (a0, .inr (9, [.int 0, .int 0, .int (-1), .ref a3, g14, g15, g16, g17, g18, g19, g20, g21, g22, g23, g24, .ref a4, g25, g26, g27, g28, g29, g30, g31, g32, g33, g34, g35, g36, g37, g38]))] := hD
        have hK : va_K (dC, dI) vwCl [(cB57, .int), (cB59, .int), (cB61, .int), (cB63, .int), (cB65, .int), (cB67, .int), (cB69, .int)] s := hK
        have hP9 := hP.sub (ws' := [(a0, .inr (9, [.int 0, .int 0, .int (-1), .ref a3, g14, g15, g16, g17, g18, g19, g20, g21, g22, g23, g24, .ref a4, g25, g26, g27, g28, g29, g30, g31, g32, g33, g34, g35, g36, g37, g38])), (a3, .inr (8, [g39, g40, g41, g42, g43, g44, .int k45, g46, g47, g48, g49, .ref a5, .ref a6, .ref a7, .ref a8, .ref a9, .ref a10, g50, g51, g52, g53, g54, g55, g56])), (a4, .inl (cB57, 26, .inl f58)), (a5, .inl (cB59, 6, .inl f60)), (a6, .inl (cB61, 6, .inl f62)), (a7, .inl (cB63, 6, .inl f64)), (a8, .inl (cB65, 6, .inl f66)), (a9, .inl (cB67, 6, .inl f68)), (a10, .inl (cB69, 6, .inl f70))]) [8, 7, 0, 1, 2, 3, 4, 5, 6] rfl
        have hD9 := hD.sub (ws' := [(a0, .inr (9, [.int 0, .int 0, .int (-1), .ref a3, g14, g15, g16, g17, g18, g19, g20, g21, g22, g23, g24, .ref a4, g25, g26, g27, g28, g29, g30, g31, g32, g33, g34, g35, g36, g37, g38])), (a3, .inr (8, [g39, g40, g41, g42, g43, g44, .int k45, g46, g47, g48, g49, .ref a5, .ref a6, .ref a7, .ref a8, .ref a9, .ref a10, g50, g51, g52, g53, g54, g55, g56])), (a4, .inl (cB57, 26, .inl f58)), (a5, .inl (cB59, 6, .inl f60)), (a6, .inl (cB61, 6, .inl f62)), (a7, .inl (cB63, 6, .inl f64)), (a8, .inl (cB65, 6, .inl f66)), (a9, .inl (cB67, 6, .inl f68)), (a10, .inl (cB69, 6, .inl f70))]) [8, 7, 0, 1, 2, 3, 4, 5, 6] (by decide) rfl
        have hK9 := hK.sub (tys' := []) [] rfl
        exact W.iret (v := z32) hx hb hr (fun t ht hW => ⟨⟨z32, 0, rfl, trivial, by rw [ht]; exact hP9, va_K.moved hW.alike hK9, hD9⟩, hS.F ht⟩) hS.2.2 dX12_answer_135
      · refine lv_tableIn (tgt := 136) hx hb dX12_answer_30 (by decide) (by decide) rfl (by decide) ?_
        refine lv_aload_n hx hb dX12_answer_136 rfl (lv_at hl 0 rfl) ?_
        refine lv_aload_n hx hb dX12_answer_137 rfl (lv_at hl 0 rfl) ?_
        refine va_get (D := (dC, dI)) (ci := 9) (v := .ref a3) (C := RX12) (T := TX12) (N := 30) hx hb hts iX12_answer_X12 hown hK hP 7 rfl rfl 3 (by decide) (hts (.fieldLink RX12 299 "HookPierModel" "pier" "LHookPierModel$Pier;") (List.mem_of_getElem? (i := 7) rfl)) (fun _ h9 => h9) rfl dX12_answer_138 ?_
        refine va_getN (D := (dC, dI)) (ci := 8) (v := .ref a9) (C := RX11) (T := TX11) (N := 24) hx hb hts iX12_answer_X11 hown hK hP 8 rfl rfl 15 (by decide) (va_Nw.use rfl (hN.1 (.fieldLinkNest RX12 265 "HookPierModel$Pier" "likes" "[I" "HookPierModel") (List.mem_of_getElem? (i := 37) rfl))) (fun _ h9 => h9) rfl dX12_answer_141 ?_
        refine lv_iload_n hx hb dX12_answer_144 rfl (lv_at hl 1 rfl) ?_
        refine va_iald hx hb hK hP 5 5 rfl rfl (vp_in_iff.mpr (by omega)) dX12_answer_145 ?_
        refine lv_topi (fun z34 ez34 => ?_)
        clear ez34
        refine cl_i (wc := [(a0, .inr (9, [.int 0, .int k12, .int k13, .ref a3, g14, g15, g16, g17, g18, g19, g20, g21, g22, g23, g24, .ref a4, g25, g26, g27, g28, g29, g30, g31, g32, g33, g34, g35, g36, g37, g38]))]) (wr := [(a4, .inl (cB57, 26, .inl f58)), (a5, .inl (cB59, 6, .inl f60)), (a6, .inl (cB61, 6, .inl f62)), (a7, .inl (cB63, 6, .inl f64)), (a8, .inl (cB65, 6, .inl f66)), (a9, .inl (cB67, 6, .inl f68)), (a10, .inl (cB69, 6, .inl f70)), (a3, .inr (8, [g39, g40, g41, g42, g43, g44, .int k45, g46, g47, g48, g49, .ref a5, .ref a6, .ref a7, .ref a8, .ref a9, .ref a10, g50, g51, g52, g53, g54, g55, g56]))]) (va_runV (As := [.int z34]) (rest := []) ⟨hx, hb, hml, hown, hts⟩ (kX12_good l dC dI a0 z34 (.int 0) k12 k13 (.ref a3) (g14) (g15) (g16) (g17) (g18) (g19) (g20) (g21) (g22) (g23) (g24) (.ref a4) (g25) (g26) (g27) (g28) (g29) (g30) (g31) (g32) (g33) (g34) (g35) (g36) (g37) (g38)  H.size) (cwV 1 hts gX12_answer_3 rfl rfl rfl (by decide +kernel) ⟨Nat.le_of_ble_eq_true rfl, Nat.le_of_ble_eq_true rfl⟩) (PV (hP.sub (ws' := [(a0, .inr (9, [.int 0, .int k12, .int k13, .ref a3, g14, g15, g16, g17, g18, g19, g20, g21, g22, g23, g24, .ref a4, g25, g26, g27, g28, g29, g30, g31, g32, g33, g34, g35, g36, g37, g38]))]) [7] rfl) (hK.sub (tys' := []) [] rfl) (hD.sub (ws' := [(a0, .inr (9, [.int 0, .int k12, .int k13, .ref a3, g14, g15, g16, g17, g18, g19, g20, g21, g22, g23, g24, .ref a4, g25, g26, g27, g28, g29, g30, g31, g32, g33, g34, g35, g36, g37, g38]))]) [7] (by decide) rfl) hN 0 rfl rfl) rfl rfl hl.1 rfl (lv_room (Nat.le_of_ble_eq_true rfl)) dX12_answer_146 ⟨Nat.le_of_ble_eq_true rfl, Nat.le_of_ble_eq_true rfl⟩) hP hD hK hS hA [7] [0, 1, 2, 3, 4, 5, 6, 8] rfl rfl (by decide) (by decide) (fun z35 _u H locs hw hP hD hK hS => ?_)
        have b36 := hw
        have hP : va_P (dC, dI) vwCl [(a4, .inl (cB57, 26, .inl f58)), (a5, .inl (cB59, 6, .inl f60)), (a6, .inl (cB61, 6, .inl f62)), (a7, .inl (cB63, 6, .inl f64)), (a8, .inl (cB65, 6, .inl f66)), (a9, .inl (cB67, 6, .inl f68)), (a10, .inl (cB69, 6, .inl f70)), (a3, .inr (8, [g39, g40, g41, g42, g43, g44, .int k45, g46, g47, g48, g49, .ref a5, .ref a6, .ref a7, .ref a8, .ref a9, .ref a10, g50, g51, g52, g53, g54, g55, g56])), (a0, .inr (9, [.int 0, .int 0, .int (-1), .ref a3, g14, g15, g16, g17, g18, g19, g20, g21, g22, g23, g24, .ref a4, g25, g26, g27, g28, g29, g30, g31, g32, g33, g34, g35, g36, g37, g38]))] H := hP
        have hD : va_D A [(a4, .inl (cB57, 26, .inl f58)), (a5, .inl (cB59, 6, .inl f60)), (a6, .inl (cB61, 6, .inl f62)), (a7, .inl (cB63, 6, .inl f64)), (a8, .inl (cB65, 6, .inl f66)), (a9, .inl (cB67, 6, .inl f68)), (a10, .inl (cB69, 6, .inl f70)), (a3, .inr (8, [g39, g40, g41, g42, g43, g44, .int k45, g46, g47, g48, g49, .ref a5, .ref a6, .ref a7, .ref a8, .ref a9, .ref a10, g50, g51, g52, g53, g54, g55, g56])), (a0, .inr (9, [.int 0, .int 0, .int (-1), .ref a3, g14, g15, g16, g17, g18, g19, g20, g21, g22, g23, g24, .ref a4, g25, g26, g27, g28, g29, g30, g31, g32, g33, g34, g35, g36, g37, g38]))] := hD
        have hK : va_K (dC, dI) vwCl [(cB57, .int), (cB59, .int), (cB61, .int), (cB63, .int), (cB65, .int), (cB67, .int), (cB69, .int)] s := hK
        have hP9 := hP.sub (ws' := [(a0, .inr (9, [.int 0, .int 0, .int (-1), .ref a3, g14, g15, g16, g17, g18, g19, g20, g21, g22, g23, g24, .ref a4, g25, g26, g27, g28, g29, g30, g31, g32, g33, g34, g35, g36, g37, g38])), (a3, .inr (8, [g39, g40, g41, g42, g43, g44, .int k45, g46, g47, g48, g49, .ref a5, .ref a6, .ref a7, .ref a8, .ref a9, .ref a10, g50, g51, g52, g53, g54, g55, g56])), (a4, .inl (cB57, 26, .inl f58)), (a5, .inl (cB59, 6, .inl f60)), (a6, .inl (cB61, 6, .inl f62)), (a7, .inl (cB63, 6, .inl f64)), (a8, .inl (cB65, 6, .inl f66)), (a9, .inl (cB67, 6, .inl f68)), (a10, .inl (cB69, 6, .inl f70))]) [8, 7, 0, 1, 2, 3, 4, 5, 6] rfl
        have hD9 := hD.sub (ws' := [(a0, .inr (9, [.int 0, .int 0, .int (-1), .ref a3, g14, g15, g16, g17, g18, g19, g20, g21, g22, g23, g24, .ref a4, g25, g26, g27, g28, g29, g30, g31, g32, g33, g34, g35, g36, g37, g38])), (a3, .inr (8, [g39, g40, g41, g42, g43, g44, .int k45, g46, g47, g48, g49, .ref a5, .ref a6, .ref a7, .ref a8, .ref a9, .ref a10, g50, g51, g52, g53, g54, g55, g56])), (a4, .inl (cB57, 26, .inl f58)), (a5, .inl (cB59, 6, .inl f60)), (a6, .inl (cB61, 6, .inl f62)), (a7, .inl (cB63, 6, .inl f64)), (a8, .inl (cB65, 6, .inl f66)), (a9, .inl (cB67, 6, .inl f68)), (a10, .inl (cB69, 6, .inl f70))]) [8, 7, 0, 1, 2, 3, 4, 5, 6] (by decide) rfl
        have hK9 := hK.sub (tys' := []) [] rfl
        exact W.iret (v := z35) hx hb hr (fun t ht hW => ⟨⟨z35, 0, rfl, trivial, by rw [ht]; exact hP9, va_K.moved hW.alike hK9, hD9⟩, hS.F ht⟩) hS.2.2 dX12_answer_149
      · refine lv_tableIn (tgt := 150) hx hb dX12_answer_30 (by decide) (by decide) rfl (by decide) ?_
        refine lv_aload_n hx hb dX12_answer_150 rfl (lv_at hl 0 rfl) ?_
        refine lv_aload_n hx hb dX12_answer_151 rfl (lv_at hl 0 rfl) ?_
        refine va_get (D := (dC, dI)) (ci := 9) (v := .ref a3) (C := RX12) (T := TX12) (N := 30) hx hb hts iX12_answer_X12 hown hK hP 7 rfl rfl 3 (by decide) (hts (.fieldLink RX12 299 "HookPierModel" "pier" "LHookPierModel$Pier;") (List.mem_of_getElem? (i := 7) rfl)) (fun _ h9 => h9) rfl dX12_answer_152 ?_
        refine va_getN (D := (dC, dI)) (ci := 8) (v := .ref a10) (C := RX11) (T := TX11) (N := 24) hx hb hts iX12_answer_X11 hown hK hP 8 rfl rfl 16 (by decide) (va_Nw.use rfl (hN.1 (.fieldLinkNest RX12 267 "HookPierModel$Pier" "worth" "[I" "HookPierModel") (List.mem_of_getElem? (i := 38) rfl))) (fun _ h9 => h9) rfl dX12_answer_155 ?_
        refine lv_iload_n hx hb dX12_answer_158 rfl (lv_at hl 1 rfl) ?_
        refine va_iald hx hb hK hP 6 6 rfl rfl (vp_in_iff.mpr (by omega)) dX12_answer_159 ?_
        refine lv_topi (fun z37 ez37 => ?_)
        clear ez37
        refine cl_i (wc := [(a0, .inr (9, [.int 0, .int k12, .int k13, .ref a3, g14, g15, g16, g17, g18, g19, g20, g21, g22, g23, g24, .ref a4, g25, g26, g27, g28, g29, g30, g31, g32, g33, g34, g35, g36, g37, g38]))]) (wr := [(a4, .inl (cB57, 26, .inl f58)), (a5, .inl (cB59, 6, .inl f60)), (a6, .inl (cB61, 6, .inl f62)), (a7, .inl (cB63, 6, .inl f64)), (a8, .inl (cB65, 6, .inl f66)), (a9, .inl (cB67, 6, .inl f68)), (a10, .inl (cB69, 6, .inl f70)), (a3, .inr (8, [g39, g40, g41, g42, g43, g44, .int k45, g46, g47, g48, g49, .ref a5, .ref a6, .ref a7, .ref a8, .ref a9, .ref a10, g50, g51, g52, g53, g54, g55, g56]))]) (va_runV (As := [.int z37]) (rest := []) ⟨hx, hb, hml, hown, hts⟩ (kX12_good l dC dI a0 z37 (.int 0) k12 k13 (.ref a3) (g14) (g15) (g16) (g17) (g18) (g19) (g20) (g21) (g22) (g23) (g24) (.ref a4) (g25) (g26) (g27) (g28) (g29) (g30) (g31) (g32) (g33) (g34) (g35) (g36) (g37) (g38)  H.size) (cwV 1 hts gX12_answer_3 rfl rfl rfl (by decide +kernel) ⟨Nat.le_of_ble_eq_true rfl, Nat.le_of_ble_eq_true rfl⟩) (PV (hP.sub (ws' := [(a0, .inr (9, [.int 0, .int k12, .int k13, .ref a3, g14, g15, g16, g17, g18, g19, g20, g21, g22, g23, g24, .ref a4, g25, g26, g27, g28, g29, g30, g31, g32, g33, g34, g35, g36, g37, g38]))]) [7] rfl) (hK.sub (tys' := []) [] rfl) (hD.sub (ws' := [(a0, .inr (9, [.int 0, .int k12, .int k13, .ref a3, g14, g15, g16, g17, g18, g19, g20, g21, g22, g23, g24, .ref a4, g25, g26, g27, g28, g29, g30, g31, g32, g33, g34, g35, g36, g37, g38]))]) [7] (by decide) rfl) hN 0 rfl rfl) rfl rfl hl.1 rfl (lv_room (Nat.le_of_ble_eq_true rfl)) dX12_answer_160 ⟨Nat.le_of_ble_eq_true rfl, Nat.le_of_ble_eq_true rfl⟩) hP hD hK hS hA [7] [0, 1, 2, 3, 4, 5, 6, 8] rfl rfl (by decide) (by decide) (fun z38 _u H locs hw hP hD hK hS => ?_)
        have b39 := hw
        have hP : va_P (dC, dI) vwCl [(a4, .inl (cB57, 26, .inl f58)), (a5, .inl (cB59, 6, .inl f60)), (a6, .inl (cB61, 6, .inl f62)), (a7, .inl (cB63, 6, .inl f64)), (a8, .inl (cB65, 6, .inl f66)), (a9, .inl (cB67, 6, .inl f68)), (a10, .inl (cB69, 6, .inl f70)), (a3, .inr (8, [g39, g40, g41, g42, g43, g44, .int k45, g46, g47, g48, g49, .ref a5, .ref a6, .ref a7, .ref a8, .ref a9, .ref a10, g50, g51, g52, g53, g54, g55, g56])), (a0, .inr (9, [.int 0, .int 0, .int (-1), .ref a3, g14, g15, g16, g17, g18, g19, g20, g21, g22, g23, g24, .ref a4, g25, g26, g27, g28, g29, g30, g31, g32, g33, g34, g35, g36, g37, g38]))] H := hP
        have hD : va_D A [(a4, .inl (cB57, 26, .inl f58)), (a5, .inl (cB59, 6, .inl f60)), (a6, .inl (cB61, 6, .inl f62)), (a7, .inl (cB63, 6, .inl f64)), (a8, .inl (cB65, 6, .inl f66)), (a9, .inl (cB67, 6, .inl f68)), (a10, .inl (cB69, 6, .inl f70)), (a3, .inr (8, [g39, g40, g41, g42, g43, g44, .int k45, g46, g47, g48, g49, .ref a5, .ref a6, .ref a7, .ref a8, .ref a9, .ref a10, g50, g51, g52, g53, g54, g55, g56])), (a0, .inr (9, [.int 0, .int 0, .int (-1), .ref a3, g14, g15, g16, g17, g18, g19, g20, g21, g22, g23, g24, .ref a4, g25, g26, g27, g28, g29, g30, g31, g32, g33, g34, g35, g36, g37, g38]))] := hD
        have hK : va_K (dC, dI) vwCl [(cB57, .int), (cB59, .int), (cB61, .int), (cB63, .int), (cB65, .int), (cB67, .int), (cB69, .int)] s := hK
        have hP9 := hP.sub (ws' := [(a0, .inr (9, [.int 0, .int 0, .int (-1), .ref a3, g14, g15, g16, g17, g18, g19, g20, g21, g22, g23, g24, .ref a4, g25, g26, g27, g28, g29, g30, g31, g32, g33, g34, g35, g36, g37, g38])), (a3, .inr (8, [g39, g40, g41, g42, g43, g44, .int k45, g46, g47, g48, g49, .ref a5, .ref a6, .ref a7, .ref a8, .ref a9, .ref a10, g50, g51, g52, g53, g54, g55, g56])), (a4, .inl (cB57, 26, .inl f58)), (a5, .inl (cB59, 6, .inl f60)), (a6, .inl (cB61, 6, .inl f62)), (a7, .inl (cB63, 6, .inl f64)), (a8, .inl (cB65, 6, .inl f66)), (a9, .inl (cB67, 6, .inl f68)), (a10, .inl (cB69, 6, .inl f70))]) [8, 7, 0, 1, 2, 3, 4, 5, 6] rfl
        have hD9 := hD.sub (ws' := [(a0, .inr (9, [.int 0, .int 0, .int (-1), .ref a3, g14, g15, g16, g17, g18, g19, g20, g21, g22, g23, g24, .ref a4, g25, g26, g27, g28, g29, g30, g31, g32, g33, g34, g35, g36, g37, g38])), (a3, .inr (8, [g39, g40, g41, g42, g43, g44, .int k45, g46, g47, g48, g49, .ref a5, .ref a6, .ref a7, .ref a8, .ref a9, .ref a10, g50, g51, g52, g53, g54, g55, g56])), (a4, .inl (cB57, 26, .inl f58)), (a5, .inl (cB59, 6, .inl f60)), (a6, .inl (cB61, 6, .inl f62)), (a7, .inl (cB63, 6, .inl f64)), (a8, .inl (cB65, 6, .inl f66)), (a9, .inl (cB67, 6, .inl f68)), (a10, .inl (cB69, 6, .inl f70))]) [8, 7, 0, 1, 2, 3, 4, 5, 6] (by decide) rfl
        have hK9 := hK.sub (tys' := []) [] rfl
        exact W.iret (v := z38) hx hb hr (fun t ht hW => ⟨⟨z38, 0, rfl, trivial, by rw [ht]; exact hP9, va_K.moved hW.alike hK9, hD9⟩, hS.F ht⟩) hS.2.2 dX12_answer_163
      · refine lv_tableIn (tgt := 164) hx hb dX12_answer_30 (by decide) (by decide) rfl (by decide) ?_
        refine lv_aload_n hx hb dX12_answer_164 rfl (lv_at hl 0 rfl) ?_
        refine lv_aload_n hx hb dX12_answer_165 rfl (lv_at hl 0 rfl) ?_
        refine va_get (D := (dC, dI)) (ci := 9) (v := .ref a4) (C := RX12) (T := TX12) (N := 30) hx hb hts iX12_answer_X12 hown hK hP 7 rfl rfl 15 (by decide) (hts (.fieldLink RX12 17 "HookPierModel" "v" "[I") (List.mem_of_getElem? (i := 21) rfl)) (fun _ h9 => h9) rfl dX12_answer_166 ?_
        refine lv_iconst (v := 0) hx hb dX12_answer_169 (by decide) ?_
        refine lv_iload_n hx hb dX12_answer_170 rfl (lv_at hl 1 rfl) ?_
        refine lv_iadd hx hb dX12_answer_171 ?_
        refine lv_topi (fun z40 ez40 => ?_)
        have tz40 : z40.toInt = 0 + k1.toInt := by rw [ez40]; rw [iadd_t (by first | omega | (simp only [ltv_0]; omega)) (by first | omega | (simp only [ltv_0]; omega))]; first | done | (simp only [ltv_0])
        refine va_iald hx hb hK hP 0 0 rfl rfl (vp_in_iff.mpr (by omega)) dX12_answer_172 ?_
        refine lv_topi (fun z41 ez41 => ?_)
        clear ez41
        refine cl_i (wc := [(a0, .inr (9, [.int 0, .int k12, .int k13, .ref a3, g14, g15, g16, g17, g18, g19, g20, g21, g22, g23, g24, .ref a4, g25, g26, g27, g28, g29, g30, g31, g32, g33, g34, g35, g36, g37, g38]))]) (wr := [(a4, .inl (cB57, 26, .inl f58)), (a5, .inl (cB59, 6, .inl f60)), (a6, .inl (cB61, 6, .inl f62)), (a7, .inl (cB63, 6, .inl f64)), (a8, .inl (cB65, 6, .inl f66)), (a9, .inl (cB67, 6, .inl f68)), (a10, .inl (cB69, 6, .inl f70)), (a3, .inr (8, [g39, g40, g41, g42, g43, g44, .int k45, g46, g47, g48, g49, .ref a5, .ref a6, .ref a7, .ref a8, .ref a9, .ref a10, g50, g51, g52, g53, g54, g55, g56]))]) (va_runV (As := [.int z41]) (rest := []) ⟨hx, hb, hml, hown, hts⟩ (kX12_good l dC dI a0 z41 (.int 0) k12 k13 (.ref a3) (g14) (g15) (g16) (g17) (g18) (g19) (g20) (g21) (g22) (g23) (g24) (.ref a4) (g25) (g26) (g27) (g28) (g29) (g30) (g31) (g32) (g33) (g34) (g35) (g36) (g37) (g38)  H.size) (cwV 1 hts gX12_answer_3 rfl rfl rfl (by decide +kernel) ⟨Nat.le_of_ble_eq_true rfl, Nat.le_of_ble_eq_true rfl⟩) (PV (hP.sub (ws' := [(a0, .inr (9, [.int 0, .int k12, .int k13, .ref a3, g14, g15, g16, g17, g18, g19, g20, g21, g22, g23, g24, .ref a4, g25, g26, g27, g28, g29, g30, g31, g32, g33, g34, g35, g36, g37, g38]))]) [7] rfl) (hK.sub (tys' := []) [] rfl) (hD.sub (ws' := [(a0, .inr (9, [.int 0, .int k12, .int k13, .ref a3, g14, g15, g16, g17, g18, g19, g20, g21, g22, g23, g24, .ref a4, g25, g26, g27, g28, g29, g30, g31, g32, g33, g34, g35, g36, g37, g38]))]) [7] (by decide) rfl) hN 0 rfl rfl) rfl rfl hl.1 rfl (lv_room (Nat.le_of_ble_eq_true rfl)) dX12_answer_173 ⟨Nat.le_of_ble_eq_true rfl, Nat.le_of_ble_eq_true rfl⟩) hP hD hK hS hA [7] [0, 1, 2, 3, 4, 5, 6, 8] rfl rfl (by decide) (by decide) (fun z42 _u H locs hw hP hD hK hS => ?_)
        have b43 := hw
        have hP : va_P (dC, dI) vwCl [(a4, .inl (cB57, 26, .inl f58)), (a5, .inl (cB59, 6, .inl f60)), (a6, .inl (cB61, 6, .inl f62)), (a7, .inl (cB63, 6, .inl f64)), (a8, .inl (cB65, 6, .inl f66)), (a9, .inl (cB67, 6, .inl f68)), (a10, .inl (cB69, 6, .inl f70)), (a3, .inr (8, [g39, g40, g41, g42, g43, g44, .int k45, g46, g47, g48, g49, .ref a5, .ref a6, .ref a7, .ref a8, .ref a9, .ref a10, g50, g51, g52, g53, g54, g55, g56])), (a0, .inr (9, [.int 0, .int 0, .int (-1), .ref a3, g14, g15, g16, g17, g18, g19, g20, g21, g22, g23, g24, .ref a4, g25, g26, g27, g28, g29, g30, g31, g32, g33, g34, g35, g36, g37, g38]))] H := hP
        have hD : va_D A [(a4, .inl (cB57, 26, .inl f58)), (a5, .inl (cB59, 6, .inl f60)), (a6, .inl (cB61, 6, .inl f62)), (a7, .inl (cB63, 6, .inl f64)), (a8, .inl (cB65, 6, .inl f66)), (a9, .inl (cB67, 6, .inl f68)), (a10, .inl (cB69, 6, .inl f70)), (a3, .inr (8, [g39, g40, g41, g42, g43, g44, .int k45, g46, g47, g48, g49, .ref a5, .ref a6, .ref a7, .ref a8, .ref a9, .ref a10, g50, g51, g52, g53, g54, g55, g56])), (a0, .inr (9, [.int 0, .int 0, .int (-1), .ref a3, g14, g15, g16, g17, g18, g19, g20, g21, g22, g23, g24, .ref a4, g25, g26, g27, g28, g29, g30, g31, g32, g33, g34, g35, g36, g37, g38]))] := hD
        have hK : va_K (dC, dI) vwCl [(cB57, .int), (cB59, .int), (cB61, .int), (cB63, .int), (cB65, .int), (cB67, .int), (cB69, .int)] s := hK
        have hP9 := hP.sub (ws' := [(a0, .inr (9, [.int 0, .int 0, .int (-1), .ref a3, g14, g15, g16, g17, g18, g19, g20, g21, g22, g23, g24, .ref a4, g25, g26, g27, g28, g29, g30, g31, g32, g33, g34, g35, g36, g37, g38])), (a3, .inr (8, [g39, g40, g41, g42, g43, g44, .int k45, g46, g47, g48, g49, .ref a5, .ref a6, .ref a7, .ref a8, .ref a9, .ref a10, g50, g51, g52, g53, g54, g55, g56])), (a4, .inl (cB57, 26, .inl f58)), (a5, .inl (cB59, 6, .inl f60)), (a6, .inl (cB61, 6, .inl f62)), (a7, .inl (cB63, 6, .inl f64)), (a8, .inl (cB65, 6, .inl f66)), (a9, .inl (cB67, 6, .inl f68)), (a10, .inl (cB69, 6, .inl f70))]) [8, 7, 0, 1, 2, 3, 4, 5, 6] rfl
        have hD9 := hD.sub (ws' := [(a0, .inr (9, [.int 0, .int 0, .int (-1), .ref a3, g14, g15, g16, g17, g18, g19, g20, g21, g22, g23, g24, .ref a4, g25, g26, g27, g28, g29, g30, g31, g32, g33, g34, g35, g36, g37, g38])), (a3, .inr (8, [g39, g40, g41, g42, g43, g44, .int k45, g46, g47, g48, g49, .ref a5, .ref a6, .ref a7, .ref a8, .ref a9, .ref a10, g50, g51, g52, g53, g54, g55, g56])), (a4, .inl (cB57, 26, .inl f58)), (a5, .inl (cB59, 6, .inl f60)), (a6, .inl (cB61, 6, .inl f62)), (a7, .inl (cB63, 6, .inl f64)), (a8, .inl (cB65, 6, .inl f66)), (a9, .inl (cB67, 6, .inl f68)), (a10, .inl (cB69, 6, .inl f70))]) [8, 7, 0, 1, 2, 3, 4, 5, 6] (by decide) rfl
        have hK9 := hK.sub (tys' := []) [] rfl
        exact W.iret (v := z42) hx hb hr (fun t ht hW => ⟨⟨z42, 0, rfl, trivial, by rw [ht]; exact hP9, va_K.moved hW.alike hK9, hD9⟩, hS.F ht⟩) hS.2.2 dX12_answer_176
      · refine lv_tableIn (tgt := 177) hx hb dX12_answer_30 (by decide) (by decide) rfl (by decide) ?_
        refine lv_aload_n hx hb dX12_answer_177 rfl (lv_at hl 0 rfl) ?_
        refine lv_aload_n hx hb dX12_answer_178 rfl (lv_at hl 0 rfl) ?_
        refine va_get (D := (dC, dI)) (ci := 9) (v := .ref a4) (C := RX12) (T := TX12) (N := 30) hx hb hts iX12_answer_X12 hown hK hP 7 rfl rfl 15 (by decide) (hts (.fieldLink RX12 17 "HookPierModel" "v" "[I") (List.mem_of_getElem? (i := 21) rfl)) (fun _ h9 => h9) rfl dX12_answer_179 ?_
        refine lv_bipush (v := 6) hx hb dX12_answer_182 (by decide) ?_
        refine lv_iload_n hx hb dX12_answer_184 rfl (lv_at hl 1 rfl) ?_
        refine lv_iadd hx hb dX12_answer_185 ?_
        refine lv_topi (fun z44 ez44 => ?_)
        have tz44 : z44.toInt = 6 + k1.toInt := by rw [ez44]; rw [iadd_t (by first | omega | (simp only [ltv_0, ltv_6]; omega)) (by first | omega | (simp only [ltv_0, ltv_6]; omega))]; first | done | (simp only [ltv_0, ltv_6])
        refine va_iald hx hb hK hP 0 0 rfl rfl (vp_in_iff.mpr (by omega)) dX12_answer_186 ?_
        refine lv_topi (fun z45 ez45 => ?_)
        clear ez45
        refine cl_i (wc := [(a0, .inr (9, [.int 0, .int k12, .int k13, .ref a3, g14, g15, g16, g17, g18, g19, g20, g21, g22, g23, g24, .ref a4, g25, g26, g27, g28, g29, g30, g31, g32, g33, g34, g35, g36, g37, g38]))]) (wr := [(a4, .inl (cB57, 26, .inl f58)), (a5, .inl (cB59, 6, .inl f60)), (a6, .inl (cB61, 6, .inl f62)), (a7, .inl (cB63, 6, .inl f64)), (a8, .inl (cB65, 6, .inl f66)), (a9, .inl (cB67, 6, .inl f68)), (a10, .inl (cB69, 6, .inl f70)), (a3, .inr (8, [g39, g40, g41, g42, g43, g44, .int k45, g46, g47, g48, g49, .ref a5, .ref a6, .ref a7, .ref a8, .ref a9, .ref a10, g50, g51, g52, g53, g54, g55, g56]))]) (va_runV (As := [.int z45]) (rest := []) ⟨hx, hb, hml, hown, hts⟩ (kX12_good l dC dI a0 z45 (.int 0) k12 k13 (.ref a3) (g14) (g15) (g16) (g17) (g18) (g19) (g20) (g21) (g22) (g23) (g24) (.ref a4) (g25) (g26) (g27) (g28) (g29) (g30) (g31) (g32) (g33) (g34) (g35) (g36) (g37) (g38)  H.size) (cwV 1 hts gX12_answer_3 rfl rfl rfl (by decide +kernel) ⟨Nat.le_of_ble_eq_true rfl, Nat.le_of_ble_eq_true rfl⟩) (PV (hP.sub (ws' := [(a0, .inr (9, [.int 0, .int k12, .int k13, .ref a3, g14, g15, g16, g17, g18, g19, g20, g21, g22, g23, g24, .ref a4, g25, g26, g27, g28, g29, g30, g31, g32, g33, g34, g35, g36, g37, g38]))]) [7] rfl) (hK.sub (tys' := []) [] rfl) (hD.sub (ws' := [(a0, .inr (9, [.int 0, .int k12, .int k13, .ref a3, g14, g15, g16, g17, g18, g19, g20, g21, g22, g23, g24, .ref a4, g25, g26, g27, g28, g29, g30, g31, g32, g33, g34, g35, g36, g37, g38]))]) [7] (by decide) rfl) hN 0 rfl rfl) rfl rfl hl.1 rfl (lv_room (Nat.le_of_ble_eq_true rfl)) dX12_answer_187 ⟨Nat.le_of_ble_eq_true rfl, Nat.le_of_ble_eq_true rfl⟩) hP hD hK hS hA [7] [0, 1, 2, 3, 4, 5, 6, 8] rfl rfl (by decide) (by decide) (fun z46 _u H locs hw hP hD hK hS => ?_)
        have b47 := hw
        have hP : va_P (dC, dI) vwCl [(a4, .inl (cB57, 26, .inl f58)), (a5, .inl (cB59, 6, .inl f60)), (a6, .inl (cB61, 6, .inl f62)), (a7, .inl (cB63, 6, .inl f64)), (a8, .inl (cB65, 6, .inl f66)), (a9, .inl (cB67, 6, .inl f68)), (a10, .inl (cB69, 6, .inl f70)), (a3, .inr (8, [g39, g40, g41, g42, g43, g44, .int k45, g46, g47, g48, g49, .ref a5, .ref a6, .ref a7, .ref a8, .ref a9, .ref a10, g50, g51, g52, g53, g54, g55, g56])), (a0, .inr (9, [.int 0, .int 0, .int (-1), .ref a3, g14, g15, g16, g17, g18, g19, g20, g21, g22, g23, g24, .ref a4, g25, g26, g27, g28, g29, g30, g31, g32, g33, g34, g35, g36, g37, g38]))] H := hP
        have hD : va_D A [(a4, .inl (cB57, 26, .inl f58)), (a5, .inl (cB59, 6, .inl f60)), (a6, .inl (cB61, 6, .inl f62)), (a7, .inl (cB63, 6, .inl f64)), (a8, .inl (cB65, 6, .inl f66)), (a9, .inl (cB67, 6, .inl f68)), (a10, .inl (cB69, 6, .inl f70)), (a3, .inr (8, [g39, g40, g41, g42, g43, g44, .int k45, g46, g47, g48, g49, .ref a5, .ref a6, .ref a7, .ref a8, .ref a9, .ref a10, g50, g51, g52, g53, g54, g55, g56])), (a0, .inr (9, [.int 0, .int 0, .int (-1), .ref a3, g14, g15, g16, g17, g18, g19, g20, g21, g22, g23, g24, .ref a4, g25, g26, g27, g28, g29, g30, g31, g32, g33, g34, g35, g36, g37, g38]))] := hD
        have hK : va_K (dC, dI) vwCl [(cB57, .int), (cB59, .int), (cB61, .int), (cB63, .int), (cB65, .int), (cB67, .int), (cB69, .int)] s := hK
        have hP9 := hP.sub (ws' := [(a0, .inr (9, [.int 0, .int 0, .int (-1), .ref a3, g14, g15, g16, g17, g18, g19, g20, g21, g22, g23, g24, .ref a4, g25, g26, g27, g28, g29, g30, g31, g32, g33, g34, g35, g36, g37, g38])), (a3, .inr (8, [g39, g40, g41, g42, g43, g44, .int k45, g46, g47, g48, g49, .ref a5, .ref a6, .ref a7, .ref a8, .ref a9, .ref a10, g50, g51, g52, g53, g54, g55, g56])), (a4, .inl (cB57, 26, .inl f58)), (a5, .inl (cB59, 6, .inl f60)), (a6, .inl (cB61, 6, .inl f62)), (a7, .inl (cB63, 6, .inl f64)), (a8, .inl (cB65, 6, .inl f66)), (a9, .inl (cB67, 6, .inl f68)), (a10, .inl (cB69, 6, .inl f70))]) [8, 7, 0, 1, 2, 3, 4, 5, 6] rfl
        have hD9 := hD.sub (ws' := [(a0, .inr (9, [.int 0, .int 0, .int (-1), .ref a3, g14, g15, g16, g17, g18, g19, g20, g21, g22, g23, g24, .ref a4, g25, g26, g27, g28, g29, g30, g31, g32, g33, g34, g35, g36, g37, g38])), (a3, .inr (8, [g39, g40, g41, g42, g43, g44, .int k45, g46, g47, g48, g49, .ref a5, .ref a6, .ref a7, .ref a8, .ref a9, .ref a10, g50, g51, g52, g53, g54, g55, g56])), (a4, .inl (cB57, 26, .inl f58)), (a5, .inl (cB59, 6, .inl f60)), (a6, .inl (cB61, 6, .inl f62)), (a7, .inl (cB63, 6, .inl f64)), (a8, .inl (cB65, 6, .inl f66)), (a9, .inl (cB67, 6, .inl f68)), (a10, .inl (cB69, 6, .inl f70))]) [8, 7, 0, 1, 2, 3, 4, 5, 6] (by decide) rfl
        have hK9 := hK.sub (tys' := []) [] rfl
        exact W.iret (v := z46) hx hb hr (fun t ht hW => ⟨⟨z46, 0, rfl, trivial, by rw [ht]; exact hP9, va_K.moved hW.alike hK9, hD9⟩, hS.F ht⟩) hS.2.2 dX12_answer_190
      · refine lv_tableIn (tgt := 191) hx hb dX12_answer_30 (by decide) (by decide) rfl (by decide) ?_
        refine lv_aload_n hx hb dX12_answer_191 rfl (lv_at hl 0 rfl) ?_
        refine lv_aload_n hx hb dX12_answer_192 rfl (lv_at hl 0 rfl) ?_
        refine va_get (D := (dC, dI)) (ci := 9) (v := .ref a4) (C := RX12) (T := TX12) (N := 30) hx hb hts iX12_answer_X12 hown hK hP 7 rfl rfl 15 (by decide) (hts (.fieldLink RX12 17 "HookPierModel" "v" "[I") (List.mem_of_getElem? (i := 21) rfl)) (fun _ h9 => h9) rfl dX12_answer_193 ?_
        refine lv_bipush (v := 12) hx hb dX12_answer_196 (by decide) ?_
        refine lv_iload_n hx hb dX12_answer_198 rfl (lv_at hl 1 rfl) ?_
        refine lv_iadd hx hb dX12_answer_199 ?_
        refine lv_topi (fun z48 ez48 => ?_)
        have tz48 : z48.toInt = 12 + k1.toInt := by rw [ez48]; rw [iadd_t (by first | omega | (simp only [ltv_0, ltv_12]; omega)) (by first | omega | (simp only [ltv_0, ltv_12]; omega))]; first | done | (simp only [ltv_0, ltv_12])
        refine va_iald hx hb hK hP 0 0 rfl rfl (vp_in_iff.mpr (by omega)) dX12_answer_200 ?_
        refine lv_topi (fun z49 ez49 => ?_)
        clear ez49
        refine cl_i (wc := [(a0, .inr (9, [.int 0, .int k12, .int k13, .ref a3, g14, g15, g16, g17, g18, g19, g20, g21, g22, g23, g24, .ref a4, g25, g26, g27, g28, g29, g30, g31, g32, g33, g34, g35, g36, g37, g38]))]) (wr := [(a4, .inl (cB57, 26, .inl f58)), (a5, .inl (cB59, 6, .inl f60)), (a6, .inl (cB61, 6, .inl f62)), (a7, .inl (cB63, 6, .inl f64)), (a8, .inl (cB65, 6, .inl f66)), (a9, .inl (cB67, 6, .inl f68)), (a10, .inl (cB69, 6, .inl f70)), (a3, .inr (8, [g39, g40, g41, g42, g43, g44, .int k45, g46, g47, g48, g49, .ref a5, .ref a6, .ref a7, .ref a8, .ref a9, .ref a10, g50, g51, g52, g53, g54, g55, g56]))]) (va_runV (As := [.int z49]) (rest := []) ⟨hx, hb, hml, hown, hts⟩ (kX12_good l dC dI a0 z49 (.int 0) k12 k13 (.ref a3) (g14) (g15) (g16) (g17) (g18) (g19) (g20) (g21) (g22) (g23) (g24) (.ref a4) (g25) (g26) (g27) (g28) (g29) (g30) (g31) (g32) (g33) (g34) (g35) (g36) (g37) (g38)  H.size) (cwV 1 hts gX12_answer_3 rfl rfl rfl (by decide +kernel) ⟨Nat.le_of_ble_eq_true rfl, Nat.le_of_ble_eq_true rfl⟩) (PV (hP.sub (ws' := [(a0, .inr (9, [.int 0, .int k12, .int k13, .ref a3, g14, g15, g16, g17, g18, g19, g20, g21, g22, g23, g24, .ref a4, g25, g26, g27, g28, g29, g30, g31, g32, g33, g34, g35, g36, g37, g38]))]) [7] rfl) (hK.sub (tys' := []) [] rfl) (hD.sub (ws' := [(a0, .inr (9, [.int 0, .int k12, .int k13, .ref a3, g14, g15, g16, g17, g18, g19, g20, g21, g22, g23, g24, .ref a4, g25, g26, g27, g28, g29, g30, g31, g32, g33, g34, g35, g36, g37, g38]))]) [7] (by decide) rfl) hN 0 rfl rfl) rfl rfl hl.1 rfl (lv_room (Nat.le_of_ble_eq_true rfl)) dX12_answer_201 ⟨Nat.le_of_ble_eq_true rfl, Nat.le_of_ble_eq_true rfl⟩) hP hD hK hS hA [7] [0, 1, 2, 3, 4, 5, 6, 8] rfl rfl (by decide) (by decide) (fun z50 _u H locs hw hP hD hK hS => ?_)
        have b51 := hw
        have hP : va_P (dC, dI) vwCl [(a4, .inl (cB57, 26, .inl f58)), (a5, .inl (cB59, 6, .inl f60)), (a6, .inl (cB61, 6, .inl f62)), (a7, .inl (cB63, 6, .inl f64)), (a8, .inl (cB65, 6, .inl f66)), (a9, .inl (cB67, 6, .inl f68)), (a10, .inl (cB69, 6, .inl f70)), (a3, .inr (8, [g39, g40, g41, g42, g43, g44, .int k45, g46, g47, g48, g49, .ref a5, .ref a6, .ref a7, .ref a8, .ref a9, .ref a10, g50, g51, g52, g53, g54, g55, g56])), (a0, .inr (9, [.int 0, .int 0, .int (-1), .ref a3, g14, g15, g16, g17, g18, g19, g20, g21, g22, g23, g24, .ref a4, g25, g26, g27, g28, g29, g30, g31, g32, g33, g34, g35, g36, g37, g38]))] H := hP
        have hD : va_D A [(a4, .inl (cB57, 26, .inl f58)), (a5, .inl (cB59, 6, .inl f60)), (a6, .inl (cB61, 6, .inl f62)), (a7, .inl (cB63, 6, .inl f64)), (a8, .inl (cB65, 6, .inl f66)), (a9, .inl (cB67, 6, .inl f68)), (a10, .inl (cB69, 6, .inl f70)), (a3, .inr (8, [g39, g40, g41, g42, g43, g44, .int k45, g46, g47, g48, g49, .ref a5, .ref a6, .ref a7, .ref a8, .ref a9, .ref a10, g50, g51, g52, g53, g54, g55, g56])), (a0, .inr (9, [.int 0, .int 0, .int (-1), .ref a3, g14, g15, g16, g17, g18, g19, g20, g21, g22, g23, g24, .ref a4, g25, g26, g27, g28, g29, g30, g31, g32, g33, g34, g35, g36, g37, g38]))] := hD
        have hK : va_K (dC, dI) vwCl [(cB57, .int), (cB59, .int), (cB61, .int), (cB63, .int), (cB65, .int), (cB67, .int), (cB69, .int)] s := hK
        have hP9 := hP.sub (ws' := [(a0, .inr (9, [.int 0, .int 0, .int (-1), .ref a3, g14, g15, g16, g17, g18, g19, g20, g21, g22, g23, g24, .ref a4, g25, g26, g27, g28, g29, g30, g31, g32, g33, g34, g35, g36, g37, g38])), (a3, .inr (8, [g39, g40, g41, g42, g43, g44, .int k45, g46, g47, g48, g49, .ref a5, .ref a6, .ref a7, .ref a8, .ref a9, .ref a10, g50, g51, g52, g53, g54, g55, g56])), (a4, .inl (cB57, 26, .inl f58)), (a5, .inl (cB59, 6, .inl f60)), (a6, .inl (cB61, 6, .inl f62)), (a7, .inl (cB63, 6, .inl f64)), (a8, .inl (cB65, 6, .inl f66)), (a9, .inl (cB67, 6, .inl f68)), (a10, .inl (cB69, 6, .inl f70))]) [8, 7, 0, 1, 2, 3, 4, 5, 6] rfl
        have hD9 := hD.sub (ws' := [(a0, .inr (9, [.int 0, .int 0, .int (-1), .ref a3, g14, g15, g16, g17, g18, g19, g20, g21, g22, g23, g24, .ref a4, g25, g26, g27, g28, g29, g30, g31, g32, g33, g34, g35, g36, g37, g38])), (a3, .inr (8, [g39, g40, g41, g42, g43, g44, .int k45, g46, g47, g48, g49, .ref a5, .ref a6, .ref a7, .ref a8, .ref a9, .ref a10, g50, g51, g52, g53, g54, g55, g56])), (a4, .inl (cB57, 26, .inl f58)), (a5, .inl (cB59, 6, .inl f60)), (a6, .inl (cB61, 6, .inl f62)), (a7, .inl (cB63, 6, .inl f64)), (a8, .inl (cB65, 6, .inl f66)), (a9, .inl (cB67, 6, .inl f68)), (a10, .inl (cB69, 6, .inl f70))]) [8, 7, 0, 1, 2, 3, 4, 5, 6] (by decide) rfl
        have hK9 := hK.sub (tys' := []) [] rfl
        exact W.iret (v := z50) hx hb hr (fun t ht hW => ⟨⟨z50, 0, rfl, trivial, by rw [ht]; exact hP9, va_K.moved hW.alike hK9, hD9⟩, hS.F ht⟩) hS.2.2 dX12_answer_204
      · refine lv_tableOut (tgt := 205) hx hb dX12_answer_30 (by simp only [fa_lt, ltv_0, ltv_1, ltv_2, ltv_3, ltv_4, ltv_5, ltv_6, ltv_7, ltv_8] at c21; omega) (by decide) ?_
        refine lv_aload_n hx hb dX12_answer_205 rfl (lv_at hl 0 rfl) ?_
        refine lv_aload_n hx hb dX12_answer_206 rfl (lv_at hl 0 rfl) ?_
        refine va_get (D := (dC, dI)) (ci := 9) (v := .ref a4) (C := RX12) (T := TX12) (N := 30) hx hb hts iX12_answer_X12 hown hK hP 7 rfl rfl 15 (by decide) (hts (.fieldLink RX12 17 "HookPierModel" "v" "[I") (List.mem_of_getElem? (i := 21) rfl)) (fun _ h9 => h9) rfl dX12_answer_207 ?_
        refine lv_iconst (v := 0) hx hb dX12_answer_210 (by decide) ?_
        refine lv_iload_n hx hb dX12_answer_211 rfl (lv_at hl 1 rfl) ?_
        refine lv_iadd hx hb dX12_answer_212 ?_
        refine lv_topi (fun z52 ez52 => ?_)
        have tz52 : z52.toInt = 0 + k1.toInt := by rw [ez52]; rw [iadd_t (by first | omega | (simp only [ltv_0]; omega)) (by first | omega | (simp only [ltv_0]; omega))]; first | done | (simp only [ltv_0])
        refine va_iald hx hb hK hP 0 0 rfl rfl (vp_in_iff.mpr (by omega)) dX12_answer_213 ?_
        refine lv_topi (fun z53 ez53 => ?_)
        clear ez53
        refine lv_iconst (v := 1) hx hb dX12_answer_214 (by decide) ?_
        refine lv_icmp_ne (tgt := 242) hx hb dX12_answer_215 (by decide) (fun c54 => ?_) (fun c54 => ?_)
        · simp only [fa_lt, fa_le, fa_eq, ltv_0, ltv_1] at c54
          refine lv_bipush (v := (-2)) hx hb dX12_answer_242 (by decide) ?_
          refine cl_i (wc := [(a0, .inr (9, [.int 0, .int k12, .int k13, .ref a3, g14, g15, g16, g17, g18, g19, g20, g21, g22, g23, g24, .ref a4, g25, g26, g27, g28, g29, g30, g31, g32, g33, g34, g35, g36, g37, g38]))]) (wr := [(a4, .inl (cB57, 26, .inl f58)), (a5, .inl (cB59, 6, .inl f60)), (a6, .inl (cB61, 6, .inl f62)), (a7, .inl (cB63, 6, .inl f64)), (a8, .inl (cB65, 6, .inl f66)), (a9, .inl (cB67, 6, .inl f68)), (a10, .inl (cB69, 6, .inl f70)), (a3, .inr (8, [g39, g40, g41, g42, g43, g44, .int k45, g46, g47, g48, g49, .ref a5, .ref a6, .ref a7, .ref a8, .ref a9, .ref a10, g50, g51, g52, g53, g54, g55, g56]))]) (va_runV (As := [.int (-2)]) (rest := []) ⟨hx, hb, hml, hown, hts⟩ (kX12_good l dC dI a0 (-2) (.int 0) k12 k13 (.ref a3) (g14) (g15) (g16) (g17) (g18) (g19) (g20) (g21) (g22) (g23) (g24) (.ref a4) (g25) (g26) (g27) (g28) (g29) (g30) (g31) (g32) (g33) (g34) (g35) (g36) (g37) (g38)  H.size) (cwV 1 hts gX12_answer_3 rfl rfl rfl (by decide +kernel) ⟨Nat.le_of_ble_eq_true rfl, Nat.le_of_ble_eq_true rfl⟩) (PV (hP.sub (ws' := [(a0, .inr (9, [.int 0, .int k12, .int k13, .ref a3, g14, g15, g16, g17, g18, g19, g20, g21, g22, g23, g24, .ref a4, g25, g26, g27, g28, g29, g30, g31, g32, g33, g34, g35, g36, g37, g38]))]) [7] rfl) (hK.sub (tys' := []) [] rfl) (hD.sub (ws' := [(a0, .inr (9, [.int 0, .int k12, .int k13, .ref a3, g14, g15, g16, g17, g18, g19, g20, g21, g22, g23, g24, .ref a4, g25, g26, g27, g28, g29, g30, g31, g32, g33, g34, g35, g36, g37, g38]))]) [7] (by decide) rfl) hN 0 rfl rfl) rfl rfl hl.1 rfl (lv_room (Nat.le_of_ble_eq_true rfl)) dX12_answer_244 ⟨Nat.le_of_ble_eq_true rfl, Nat.le_of_ble_eq_true rfl⟩) hP hD hK hS hA [7] [0, 1, 2, 3, 4, 5, 6, 8] rfl rfl (by decide) (by decide) (fun z55 _u H locs hw hP hD hK hS => ?_)
          have b56 := hw
          have hP : va_P (dC, dI) vwCl [(a4, .inl (cB57, 26, .inl f58)), (a5, .inl (cB59, 6, .inl f60)), (a6, .inl (cB61, 6, .inl f62)), (a7, .inl (cB63, 6, .inl f64)), (a8, .inl (cB65, 6, .inl f66)), (a9, .inl (cB67, 6, .inl f68)), (a10, .inl (cB69, 6, .inl f70)), (a3, .inr (8, [g39, g40, g41, g42, g43, g44, .int k45, g46, g47, g48, g49, .ref a5, .ref a6, .ref a7, .ref a8, .ref a9, .ref a10, g50, g51, g52, g53, g54, g55, g56])), (a0, .inr (9, [.int 0, .int 0, .int (-1), .ref a3, g14, g15, g16, g17, g18, g19, g20, g21, g22, g23, g24, .ref a4, g25, g26, g27, g28, g29, g30, g31, g32, g33, g34, g35, g36, g37, g38]))] H := hP
          have hD : va_D A [(a4, .inl (cB57, 26, .inl f58)), (a5, .inl (cB59, 6, .inl f60)), (a6, .inl (cB61, 6, .inl f62)), (a7, .inl (cB63, 6, .inl f64)), (a8, .inl (cB65, 6, .inl f66)), (a9, .inl (cB67, 6, .inl f68)), (a10, .inl (cB69, 6, .inl f70)), (a3, .inr (8, [g39, g40, g41, g42, g43, g44, .int k45, g46, g47, g48, g49, .ref a5, .ref a6, .ref a7, .ref a8, .ref a9, .ref a10, g50, g51, g52, g53, g54, g55, g56])), (a0, .inr (9, [.int 0, .int 0, .int (-1), .ref a3, g14, g15, g16, g17, g18, g19, g20, g21, g22, g23, g24, .ref a4, g25, g26, g27, g28, g29, g30, g31, g32, g33, g34, g35, g36, g37, g38]))] := hD
          have hK : va_K (dC, dI) vwCl [(cB57, .int), (cB59, .int), (cB61, .int), (cB63, .int), (cB65, .int), (cB67, .int), (cB69, .int)] s := hK
          have hP9 := hP.sub (ws' := [(a0, .inr (9, [.int 0, .int 0, .int (-1), .ref a3, g14, g15, g16, g17, g18, g19, g20, g21, g22, g23, g24, .ref a4, g25, g26, g27, g28, g29, g30, g31, g32, g33, g34, g35, g36, g37, g38])), (a3, .inr (8, [g39, g40, g41, g42, g43, g44, .int k45, g46, g47, g48, g49, .ref a5, .ref a6, .ref a7, .ref a8, .ref a9, .ref a10, g50, g51, g52, g53, g54, g55, g56])), (a4, .inl (cB57, 26, .inl f58)), (a5, .inl (cB59, 6, .inl f60)), (a6, .inl (cB61, 6, .inl f62)), (a7, .inl (cB63, 6, .inl f64)), (a8, .inl (cB65, 6, .inl f66)), (a9, .inl (cB67, 6, .inl f68)), (a10, .inl (cB69, 6, .inl f70))]) [8, 7, 0, 1, 2, 3, 4, 5, 6] rfl
          have hD9 := hD.sub (ws' := [(a0, .inr (9, [.int 0, .int 0, .int (-1), .ref a3, g14, g15, g16, g17, g18, g19, g20, g21, g22, g23, g24, .ref a4, g25, g26, g27, g28, g29, g30, g31, g32, g33, g34, g35, g36, g37, g38])), (a3, .inr (8, [g39, g40, g41, g42, g43, g44, .int k45, g46, g47, g48, g49, .ref a5, .ref a6, .ref a7, .ref a8, .ref a9, .ref a10, g50, g51, g52, g53, g54, g55, g56])), (a4, .inl (cB57, 26, .inl f58)), (a5, .inl (cB59, 6, .inl f60)), (a6, .inl (cB61, 6, .inl f62)), (a7, .inl (cB63, 6, .inl f64)), (a8, .inl (cB65, 6, .inl f66)), (a9, .inl (cB67, 6, .inl f68)), (a10, .inl (cB69, 6, .inl f70))]) [8, 7, 0, 1, 2, 3, 4, 5, 6] (by decide) rfl
          have hK9 := hK.sub (tys' := []) [] rfl
          exact W.iret (v := z55) hx hb hr (fun t ht hW => ⟨⟨z55, 0, rfl, trivial, by rw [ht]; exact hP9, va_K.moved hW.alike hK9, hD9⟩, hS.F ht⟩) hS.2.2 dX12_answer_247
        · simp only [fa_lt, fa_le, fa_eq, ltv_0, ltv_1] at c54
          refine lv_aload_n hx hb dX12_answer_218 rfl (lv_at hl 0 rfl) ?_
          refine lv_iload_n hx hb dX12_answer_219 rfl (lv_at hl 1 rfl) ?_
          refine lv_aload_n hx hb dX12_answer_220 rfl (lv_at hl 0 rfl) ?_
          refine va_get (D := (dC, dI)) (ci := 9) (v := .ref a4) (C := RX12) (T := TX12) (N := 30) hx hb hts iX12_answer_X12 hown hK hP 7 rfl rfl 15 (by decide) (hts (.fieldLink RX12 17 "HookPierModel" "v" "[I") (List.mem_of_getElem? (i := 21) rfl)) (fun _ h9 => h9) rfl dX12_answer_221 ?_
          refine lv_bipush (v := 6) hx hb dX12_answer_224 (by decide) ?_
          refine lv_iload_n hx hb dX12_answer_226 rfl (lv_at hl 1 rfl) ?_
          refine lv_iadd hx hb dX12_answer_227 ?_
          refine lv_topi (fun z57 ez57 => ?_)
          have tz57 : z57.toInt = 6 + k1.toInt := by rw [ez57]; rw [iadd_t (by first | omega | (simp only [ltv_0, ltv_6]; omega)) (by first | omega | (simp only [ltv_0, ltv_6]; omega))]; first | done | (simp only [ltv_0, ltv_6])
          refine va_iald hx hb hK hP 0 0 rfl rfl (vp_in_iff.mpr (by omega)) dX12_answer_228 ?_
          refine lv_topi (fun z58 ez58 => ?_)
          clear ez58
          refine lv_aload_n hx hb dX12_answer_229 rfl (lv_at hl 0 rfl) ?_
          refine va_get (D := (dC, dI)) (ci := 9) (v := .ref a4) (C := RX12) (T := TX12) (N := 30) hx hb hts iX12_answer_X12 hown hK hP 7 rfl rfl 15 (by decide) (hts (.fieldLink RX12 17 "HookPierModel" "v" "[I") (List.mem_of_getElem? (i := 21) rfl)) (fun _ h9 => h9) rfl dX12_answer_230 ?_
          refine lv_bipush (v := 23) hx hb dX12_answer_233 (by decide) ?_
          refine va_iald hx hb hK hP 0 0 rfl rfl (by unfold vp_in; decide) dX12_answer_235 ?_
          refine lv_topi (fun z59 ez59 => ?_)
          clear ez59
          refine cl_i (wc := [(a0, .inr (9, [.int 0, .int k12, .int k13, .ref a3, g14, g15, g16, g17, g18, g19, g20, g21, g22, g23, g24, .ref a4, g25, g26, g27, g28, g29, g30, g31, g32, g33, g34, g35, g36, g37, g38])), (a3, .inr (8, [g39, g40, g41, g42, g43, g44, .int k45, g46, g47, g48, g49, .ref a5, .ref a6, .ref a7, .ref a8, .ref a9, .ref a10, g50, g51, g52, g53, g54, g55, g56])), (a5, .inl (cB59, 6, .inl f60)), (a10, .inl (cB69, 6, .inl f70))]) (wr := [(a4, .inl (cB57, 26, .inl f58)), (a6, .inl (cB61, 6, .inl f62)), (a7, .inl (cB63, 6, .inl f64)), (a8, .inl (cB65, 6, .inl f66)), (a9, .inl (cB67, 6, .inl f68))]) (va_runV (As := [.int k1, .int z58, .int z59]) (rest := [.ref a0]) ⟨hx, hb, hml, hown, hts⟩ (kX12_keeps l dC dI a0 k1 z58 z59 a3 a5 a10 (.int 0) (.int k12) (.int k13) (g14) (g15) (g16) (g17) (g18) (g19) (g20) (g21) (g22) (g23) (g24) (.ref a4) (g25) (g26) (g27) (g28) (g29) (g30) (g31) (g32) (g33) (g34) (g35) (g36) (g37) (g38) (g39) (g40) (g41) (g42) (g43) (g44) (.int k45) (g46) (g47) (g48) (g49) (.ref a6) (.ref a7) (.ref a8) (.ref a9) (g50) (g51) (g52) (g53) (g54) (g55) (g56) cB59 f60 cB69 f70 (by first | omega | (simp only [ltv_0]; omega)) H.size) (cwV 3 hts gX12_answer_4 rfl rfl rfl (by decide +kernel) ⟨Nat.le_of_ble_eq_true rfl, Nat.le_of_ble_eq_true rfl⟩) (PV (hP.sub (ws' := [(a0, .inr (9, [.int 0, .int k12, .int k13, .ref a3, g14, g15, g16, g17, g18, g19, g20, g21, g22, g23, g24, .ref a4, g25, g26, g27, g28, g29, g30, g31, g32, g33, g34, g35, g36, g37, g38])), (a3, .inr (8, [g39, g40, g41, g42, g43, g44, .int k45, g46, g47, g48, g49, .ref a5, .ref a6, .ref a7, .ref a8, .ref a9, .ref a10, g50, g51, g52, g53, g54, g55, g56])), (a5, .inl (cB59, 6, .inl f60)), (a10, .inl (cB69, 6, .inl f70))]) [7, 8, 1, 6] rfl) (hK.sub (tys' := [(cB59, .int), (cB69, .int)]) [1, 6] rfl) (hD.sub (ws' := [(a0, .inr (9, [.int 0, .int k12, .int k13, .ref a3, g14, g15, g16, g17, g18, g19, g20, g21, g22, g23, g24, .ref a4, g25, g26, g27, g28, g29, g30, g31, g32, g33, g34, g35, g36, g37, g38])), (a3, .inr (8, [g39, g40, g41, g42, g43, g44, .int k45, g46, g47, g48, g49, .ref a5, .ref a6, .ref a7, .ref a8, .ref a9, .ref a10, g50, g51, g52, g53, g54, g55, g56])), (a5, .inl (cB59, 6, .inl f60)), (a10, .inl (cB69, 6, .inl f70))]) [7, 8, 1, 6] (by decide) rfl) hN 0 rfl rfl) rfl rfl hl.1 rfl (lv_room (Nat.le_of_ble_eq_true rfl)) dX12_answer_236 ⟨Nat.le_of_ble_eq_true rfl, Nat.le_of_ble_eq_true rfl⟩) hP hD hK hS hA [7, 8, 1, 6] [0, 2, 3, 4, 5] rfl rfl (by decide) (by decide) (fun z60 _u H locs hw hP hD hK hS => ?_)
          have b61 := hw
          have hP : va_P (dC, dI) vwCl [(a4, .inl (cB57, 26, .inl f58)), (a6, .inl (cB61, 6, .inl f62)), (a7, .inl (cB63, 6, .inl f64)), (a8, .inl (cB65, 6, .inl f66)), (a9, .inl (cB67, 6, .inl f68)), (a0, .inr (9, [.int 0, .int k12, .int k13, .ref a3, g14, g15, g16, g17, g18, g19, g20, g21, g22, g23, g24, .ref a4, g25, g26, g27, g28, g29, g30, g31, g32, g33, g34, g35, g36, g37, g38])), (a3, .inr (8, [g39, g40, g41, g42, g43, g44, .int k45, g46, g47, g48, g49, .ref a5, .ref a6, .ref a7, .ref a8, .ref a9, .ref a10, g50, g51, g52, g53, g54, g55, g56])), (a5, .inl (cB59, 6, .inl f60)), (a10, .inl (cB69, 6, .inl f70))] H := hP
          have hD : va_D A [(a4, .inl (cB57, 26, .inl f58)), (a6, .inl (cB61, 6, .inl f62)), (a7, .inl (cB63, 6, .inl f64)), (a8, .inl (cB65, 6, .inl f66)), (a9, .inl (cB67, 6, .inl f68)), (a0, .inr (9, [.int 0, .int k12, .int k13, .ref a3, g14, g15, g16, g17, g18, g19, g20, g21, g22, g23, g24, .ref a4, g25, g26, g27, g28, g29, g30, g31, g32, g33, g34, g35, g36, g37, g38])), (a3, .inr (8, [g39, g40, g41, g42, g43, g44, .int k45, g46, g47, g48, g49, .ref a5, .ref a6, .ref a7, .ref a8, .ref a9, .ref a10, g50, g51, g52, g53, g54, g55, g56])), (a5, .inl (cB59, 6, .inl f60)), (a10, .inl (cB69, 6, .inl f70))] := hD
          have hK : va_K (dC, dI) vwCl [(cB57, .int), (cB59, .int), (cB61, .int), (cB63, .int), (cB65, .int), (cB67, .int), (cB69, .int)] s := hK
          refine lv_goto (tgt := 244) hx hb dX12_answer_239 (by decide) ?_
          refine cl_i (wc := [(a0, .inr (9, [.int 0, .int k12, .int k13, .ref a3, g14, g15, g16, g17, g18, g19, g20, g21, g22, g23, g24, .ref a4, g25, g26, g27, g28, g29, g30, g31, g32, g33, g34, g35, g36, g37, g38]))]) (wr := [(a4, .inl (cB57, 26, .inl f58)), (a6, .inl (cB61, 6, .inl f62)), (a7, .inl (cB63, 6, .inl f64)), (a8, .inl (cB65, 6, .inl f66)), (a9, .inl (cB67, 6, .inl f68)), (a3, .inr (8, [g39, g40, g41, g42, g43, g44, .int k45, g46, g47, g48, g49, .ref a5, .ref a6, .ref a7, .ref a8, .ref a9, .ref a10, g50, g51, g52, g53, g54, g55, g56])), (a5, .inl (cB59, 6, .inl f60)), (a10, .inl (cB69, 6, .inl f70))]) (va_runV (As := [.int z60]) (rest := []) ⟨hx, hb, hml, hown, hts⟩ (kX12_good l dC dI a0 z60 (.int 0) k12 k13 (.ref a3) (g14) (g15) (g16) (g17) (g18) (g19) (g20) (g21) (g22) (g23) (g24) (.ref a4) (g25) (g26) (g27) (g28) (g29) (g30) (g31) (g32) (g33) (g34) (g35) (g36) (g37) (g38)  H.size) (cwV 1 hts gX12_answer_3 rfl rfl rfl (by decide +kernel) ⟨Nat.le_of_ble_eq_true rfl, Nat.le_of_ble_eq_true rfl⟩) (PV (hP.sub (ws' := [(a0, .inr (9, [.int 0, .int k12, .int k13, .ref a3, g14, g15, g16, g17, g18, g19, g20, g21, g22, g23, g24, .ref a4, g25, g26, g27, g28, g29, g30, g31, g32, g33, g34, g35, g36, g37, g38]))]) [5] rfl) (hK.sub (tys' := []) [] rfl) (hD.sub (ws' := [(a0, .inr (9, [.int 0, .int k12, .int k13, .ref a3, g14, g15, g16, g17, g18, g19, g20, g21, g22, g23, g24, .ref a4, g25, g26, g27, g28, g29, g30, g31, g32, g33, g34, g35, g36, g37, g38]))]) [5] (by decide) rfl) hN 0 rfl rfl) rfl rfl hl.1 rfl (lv_room (Nat.le_of_ble_eq_true rfl)) dX12_answer_244 ⟨Nat.le_of_ble_eq_true rfl, Nat.le_of_ble_eq_true rfl⟩) hP hD hK hS hA [5] [0, 1, 2, 3, 4, 6, 7, 8] rfl rfl (by decide) (by decide) (fun z62 _u H locs hw hP hD hK hS => ?_)
          have b63 := hw
          have hP : va_P (dC, dI) vwCl [(a4, .inl (cB57, 26, .inl f58)), (a6, .inl (cB61, 6, .inl f62)), (a7, .inl (cB63, 6, .inl f64)), (a8, .inl (cB65, 6, .inl f66)), (a9, .inl (cB67, 6, .inl f68)), (a3, .inr (8, [g39, g40, g41, g42, g43, g44, .int k45, g46, g47, g48, g49, .ref a5, .ref a6, .ref a7, .ref a8, .ref a9, .ref a10, g50, g51, g52, g53, g54, g55, g56])), (a5, .inl (cB59, 6, .inl f60)), (a10, .inl (cB69, 6, .inl f70)), (a0, .inr (9, [.int 0, .int 0, .int (-1), .ref a3, g14, g15, g16, g17, g18, g19, g20, g21, g22, g23, g24, .ref a4, g25, g26, g27, g28, g29, g30, g31, g32, g33, g34, g35, g36, g37, g38]))] H := hP
          have hD : va_D A [(a4, .inl (cB57, 26, .inl f58)), (a6, .inl (cB61, 6, .inl f62)), (a7, .inl (cB63, 6, .inl f64)), (a8, .inl (cB65, 6, .inl f66)), (a9, .inl (cB67, 6, .inl f68)), (a3, .inr (8, [g39, g40, g41, g42, g43, g44, .int k45, g46, g47, g48, g49, .ref a5, .ref a6, .ref a7, .ref a8, .ref a9, .ref a10, g50, g51, g52, g53, g54, g55, g56])), (a5, .inl (cB59, 6, .inl f60)), (a10, .inl (cB69, 6, .inl f70)), (a0, .inr (9, [.int 0, .int 0, .int (-1), .ref a3, g14, g15, g16, g17, g18, g19, g20, g21, g22, g23, g24, .ref a4, g25, g26, g27, g28, g29, g30, g31, g32, g33, g34, g35, g36, g37, g38]))] := hD
          have hK : va_K (dC, dI) vwCl [(cB57, .int), (cB59, .int), (cB61, .int), (cB63, .int), (cB65, .int), (cB67, .int), (cB69, .int)] s := hK
          have hP9 := hP.sub (ws' := [(a0, .inr (9, [.int 0, .int 0, .int (-1), .ref a3, g14, g15, g16, g17, g18, g19, g20, g21, g22, g23, g24, .ref a4, g25, g26, g27, g28, g29, g30, g31, g32, g33, g34, g35, g36, g37, g38])), (a3, .inr (8, [g39, g40, g41, g42, g43, g44, .int k45, g46, g47, g48, g49, .ref a5, .ref a6, .ref a7, .ref a8, .ref a9, .ref a10, g50, g51, g52, g53, g54, g55, g56])), (a4, .inl (cB57, 26, .inl f58)), (a5, .inl (cB59, 6, .inl f60)), (a6, .inl (cB61, 6, .inl f62)), (a7, .inl (cB63, 6, .inl f64)), (a8, .inl (cB65, 6, .inl f66)), (a9, .inl (cB67, 6, .inl f68)), (a10, .inl (cB69, 6, .inl f70))]) [8, 5, 0, 6, 1, 2, 3, 4, 7] rfl
          have hD9 := hD.sub (ws' := [(a0, .inr (9, [.int 0, .int 0, .int (-1), .ref a3, g14, g15, g16, g17, g18, g19, g20, g21, g22, g23, g24, .ref a4, g25, g26, g27, g28, g29, g30, g31, g32, g33, g34, g35, g36, g37, g38])), (a3, .inr (8, [g39, g40, g41, g42, g43, g44, .int k45, g46, g47, g48, g49, .ref a5, .ref a6, .ref a7, .ref a8, .ref a9, .ref a10, g50, g51, g52, g53, g54, g55, g56])), (a4, .inl (cB57, 26, .inl f58)), (a5, .inl (cB59, 6, .inl f60)), (a6, .inl (cB61, 6, .inl f62)), (a7, .inl (cB63, 6, .inl f64)), (a8, .inl (cB65, 6, .inl f66)), (a9, .inl (cB67, 6, .inl f68)), (a10, .inl (cB69, 6, .inl f70))]) [8, 5, 0, 6, 1, 2, 3, 4, 7] (by decide) rfl
          have hK9 := hK.sub (tys' := []) [] rfl
          exact W.iret (v := z62) hx hb hr (fun t ht hW => ⟨⟨z62, 0, rfl, trivial, by rw [ht]; exact hP9, va_K.moved hW.alike hK9, hD9⟩, hS.F ht⟩) hS.2.2 dX12_answer_247
theorem dX12_areTangled_0 : decode cX12_areTangled 0 = .ok (.iload_n 2, 1) := by decide +kernel
theorem dX12_areTangled_1 : decode cX12_areTangled 1 = .ok (.iload 4, 2) := by decide +kernel
theorem dX12_areTangled_10 : decode cX12_areTangled 10 = .ok (.getfield 229, 3) := by decide +kernel
theorem dX12_areTangled_13 : decode cX12_areTangled 13 = .ok (.iload_n 1, 1) := by decide +kernel
theorem dX12_areTangled_14 : decode cX12_areTangled 14 = .ok (.iaload, 1) := by decide +kernel
theorem dX12_areTangled_15 : decode cX12_areTangled 15 = .ok (.aload_n 0, 1) := by decide +kernel
theorem dX12_areTangled_16 : decode cX12_areTangled 16 = .ok (.getfield 299, 3) := by decide +kernel
theorem dX12_areTangled_19 : decode cX12_areTangled 19 = .ok (.getfield 229, 3) := by decide +kernel
theorem dX12_areTangled_22 : decode cX12_areTangled 22 = .ok (.iload_n 3, 1) := by decide +kernel
theorem dX12_areTangled_23 : decode cX12_areTangled 23 = .ok (.iaload, 1) := by decide +kernel
theorem dX12_areTangled_24 : decode cX12_areTangled 24 = .ok (.iadd, 1) := by decide +kernel
theorem dX12_areTangled_25 : decode cX12_areTangled 25 = .ok (.if_icmp .gt 7, 3) := by decide +kernel
theorem dX12_areTangled_28 : decode cX12_areTangled 28 = .ok (.iconst 1, 1) := by decide +kernel
theorem dX12_areTangled_29 : decode cX12_areTangled 29 = .ok (.goto 4, 3) := by decide +kernel
theorem dX12_areTangled_3 : decode cX12_areTangled 3 = .ok (.invokestatic 327, 3) := by decide +kernel
theorem dX12_areTangled_32 : decode cX12_areTangled 32 = .ok (.iconst 0, 1) := by decide +kernel
theorem dX12_areTangled_33 : decode cX12_areTangled 33 = .ok (.ireturn, 1) := by decide +kernel
theorem dX12_areTangled_6 : decode cX12_areTangled 6 = .ok (.aload_n 0, 1) := by decide +kernel
theorem dX12_areTangled_7 : decode cX12_areTangled 7 = .ok (.getfield 299, 3) := by decide +kernel
def vX12_areTangled : List Cond := .code yX12_areTangled cX12_areTangled 5 (some .boolean) :: ([.methodLink RX12 327 yX12_apart, .static yX12_apart, .initialized RX12, .code yX12_apart cX12_apart 2 (some .int), .fieldLink RX12 299 "HookPierModel" "pier" "LHookPierModel$Pier;"] ++ wsX120 ++ wsX110)
theorem iX12_areTangled_X12 : ∀ w ∈ wsX120, w ∈ vX12_areTangled := fun _ h => List.mem_cons_of_mem _ (List.mem_append_left _ (List.mem_append_right _ h))
theorem iX12_areTangled_X11 : ∀ w ∈ wsX110, w ∈ vX12_areTangled := fun _ h => List.mem_cons_of_mem _ (List.mem_append_right _ h)
set_option maxRecDepth 20000 in
theorem gX12_areTangled_0 : GoodIn vX12_areTangled (va_wsS RX12 327 yX12_apart vX12_apart) := goodIn_app (goodIn_r [.methodLink RX12 327 yX12_apart, .static yX12_apart, .initialized RX12] [1, 2, 3] (by decide +kernel) (by decide +kernel)) (goodIn_r (.code yX12_apart cX12_apart 2 (some .int) :: []) [4] (by decide +kernel) (by decide +kernel) : GoodIn vX12_areTangled (.code yX12_apart cX12_apart 2 (some .int) :: []))
set_option maxHeartbeats 2000000 in
set_option maxRecDepth 100000 in
theorem kX12_areTangled (l : Launch) (dC : Nat → ClassId) (dI : Nat → Nat → Nat) (a0 : Nat) (k1 : Int32) (k2 : Int32) (k3 : Int32) (k4 : Int32) (a5 : Nat) (a6 : Nat) (g7 : Value) (g8 : Value) (g9 : Value) (g10 : Value) (g11 : Value) (g12 : Value) (g13 : Value) (g14 : Value) (g15 : Value) (g16 : Value) (g17 : Value) (g18 : Value) (g19 : Value) (g20 : Value) (g21 : Value) (g22 : Value) (g23 : Value) (g24 : Value) (g25 : Value) (g26 : Value) (g27 : Value) (g28 : Value) (g29 : Value) (g30 : Value) (g31 : Value) (g32 : Value) (g33 : Value) (g34 : Value) (g35 : Value) (g36 : Value) (g37 : Value) (g38 : Value) (g39 : Value) (g40 : Value) (g41 : Value) (g42 : Value) (g43 : Value) (g44 : Value) (g45 : Value) (g46 : Value) (g47 : Value) (g48 : Value) (g49 : Value) (g50 : Value) (g51 : Value) (g52 : Value) (g53 : Value) (g54 : Value) (g55 : Value) (g56 : Value) (g57 : Value) (g58 : Value) (cB59 : ClassId) (f60 : Nat → Int32) (hk1 : (0 ≤ k1.toInt ∧ k1.toInt ≤ 4)) (hk3 : (0 ≤ k3.toInt ∧ k3.toInt ≤ 4)) (sz : Nat) : Met l yX12_areTangled vX12_areTangled ({ frames := 1, cells := 0, slots := 0, locals := 21 }) (PC (dC, dI) [.ref a0, .int k1, .int k2, .int k3, .int k4] sz [(a0, .inr (9, [g7, g8, g9, .ref a5, g10, g11, g12, g13, g14, g15, g16, g17, g18, g19, g20, g21, g22, g23, g24, g25, g26, g27, g28, g29, g30, g31, g32, g33, g34, g35])), (a5, .inr (8, [g36, g37, g38, g39, g40, g41, g42, g43, g44, g45, .ref a6, g46, g47, g48, g49, g50, g51, g52, g53, g54, g55, g56, g57, g58])), (a6, .inl (cB59, 5, .inl f60))] [(cB59, .int)]) (va_Qi (S := Unit) (fun (r : Int32) _ => (0 ≤ r.toInt ∧ r.toInt ≤ 1)) (fun _ t => BC (dC, dI) (va_A [(a0, .inr (9, [g7, g8, g9, .ref a5, g10, g11, g12, g13, g14, g15, g16, g17, g18, g19, g20, g21, g22, g23, g24, g25, g26, g27, g28, g29, g30, g31, g32, g33, g34, g35])), (a5, .inr (8, [g36, g37, g38, g39, g40, g41, g42, g43, g44, g45, .ref a6, g46, g47, g48, g49, g50, g51, g52, g53, g54, g55, g56, g57, g58])), (a6, .inl (cB59, 5, .inl f60))] sz) [(a0, .inr (9, [g7, g8, g9, .ref a5, g10, g11, g12, g13, g14, g15, g16, g17, g18, g19, g20, g21, g22, g23, g24, g25, g26, g27, g28, g29, g30, g31, g32, g33, g34, g35])), (a5, .inr (8, [g36, g37, g38, g39, g40, g41, g42, g43, g44, g45, .ref a6, g46, g47, g48, g49, g50, g51, g52, g53, g54, g55, g56, g57, g58])), (a6, .inl (cB59, 5, .inl f60))] [] t) (va_A [(a0, .inr (9, [g7, g8, g9, .ref a5, g10, g11, g12, g13, g14, g15, g16, g17, g18, g19, g20, g21, g22, g23, g24, g25, g26, g27, g28, g29, g30, g31, g32, g33, g34, g35])), (a5, .inr (8, [g36, g37, g38, g39, g40, g41, g42, g43, g44, g45, .ref a6, g46, g47, g48, g49, g50, g51, g52, g53, g54, g55, g56, g57, g58])), (a6, .inl (cB59, 5, .inl f60))] sz)) 0 0 (va_A [(a0, .inr (9, [g7, g8, g9, .ref a5, g10, g11, g12, g13, g14, g15, g16, g17, g18, g19, g20, g21, g22, g23, g24, g25, g26, g27, g28, g29, g30, g31, g32, g33, g34, g35])), (a5, .inr (8, [g36, g37, g38, g39, g40, g41, g42, g43, g44, g45, .ref a6, g46, g47, g48, g49, g50, g51, g52, g53, g54, g55, g56, g57, g58])), (a6, .inl (cB59, 5, .inl f60))] sz) := by
  refine Met.ofW (cc := cX12_areTangled) (maxL := 5) (ret := (some .boolean)) (by decide) rfl ?_
  intro p e s m args below meth c s₁ B hml hv
  obtain ⟨rfl, hsz, hP, hK, hD0, hN⟩ := hv
  have hx := B.exec
  have hb := B.bytes
  have hr := B.returns
  have hts := atoms_spec (ws := vX12_areTangled) B.pre
  have hown : s.vm.findClass RX12 = some m.cls := findClass_of_methodNamed B.named
  have hlocks := B.notSynchronized
  subst hsz
  have hD := hD0.self (sz := s.heap.size)
  generalize hAe : va_A [(a0, .inr (9, [g7, g8, g9, .ref a5, g10, g11, g12, g13, g14, g15, g16, g17, g18, g19, g20, g21, g22, g23, g24, g25, g26, g27, g28, g29, g30, g31, g32, g33, g34, g35])), (a5, .inr (8, [g36, g37, g38, g39, g40, g41, g42, g43, g44, g45, .ref a6, g46, g47, g48, g49, g50, g51, g52, g53, g54, g55, g56, g57, g58])), (a6, .inl (cB59, 5, .inl f60))] s.heap.size = A at hD ⊢
  have hA : ∀ q : Nat, s.heap.size ≤ q → A q := fun q h => by rw [← hAe]; exact Or.inr h
  have hS : va_S A s.heap s.heap [] := va_S.rf
  have hP : va_P (dC, dI) vwCl [(a0, .inr (9, [g7, g8, g9, .ref a5, g10, g11, g12, g13, g14, g15, g16, g17, g18, g19, g20, g21, g22, g23, g24, g25, g26, g27, g28, g29, g30, g31, g32, g33, g34, g35])), (a5, .inr (8, [g36, g37, g38, g39, g40, g41, g42, g43, g44, g45, .ref a6, g46, g47, g48, g49, g50, g51, g52, g53, g54, g55, g56, g57, g58])), (a6, .inl (cB59, 5, .inl f60))] s.heap := hP
  have hl := lv_entry ([.ref a0, .int k1, .int k2, .int k3, .int k4]) (n := 5) (Nat.le_of_ble_eq_true rfl)
  rw [lg_entry_eq]
  generalize (lg_sl ([.ref a0, .int k1, .int k2, .int k3, .int k4]) ++ List.replicate (5 - (lg_sl ([.ref a0, .int k1, .int k2, .int k3, .int k4])).length) Slot.unset).toArray = ls at hl ⊢
  have hl : lv_has ls 5 [(0, .ref a0), (1, .int k1), (2, .int k2), (3, .int k3), (4, .int k4)] := hl
  refine lv_iload_n hx hb dX12_areTangled_0 rfl (lv_at hl 2 rfl) ?_
  refine lv_iload hx hb dX12_areTangled_1 (lv_at hl 4 rfl) ?_
  refine cl_i (wc := []) (wr := [(a0, .inr (9, [g7, g8, g9, .ref a5, g10, g11, g12, g13, g14, g15, g16, g17, g18, g19, g20, g21, g22, g23, g24, g25, g26, g27, g28, g29, g30, g31, g32, g33, g34, g35])), (a5, .inr (8, [g36, g37, g38, g39, g40, g41, g42, g43, g44, g45, .ref a6, g46, g47, g48, g49, g50, g51, g52, g53, g54, g55, g56, g57, g58])), (a6, .inl (cB59, 5, .inl f60))]) (va_runS (As := [.int k2, .int k4]) (rest := []) ⟨hx, hb, hml, hown, hts⟩ (kX12_apart l dC dI k2 k4  s.heap.size) (va_cwS 2 hts gX12_areTangled_0 rfl rfl rfl (by decide +kernel) ⟨Nat.le_of_ble_eq_true rfl, Nat.le_of_ble_eq_true rfl⟩) (PS (hP.sub (ws' := []) [] rfl) (hK.sub (tys' := []) [] rfl) (hD.sub (ws' := []) [] (by decide) rfl) hN) rfl rfl hl.1 rfl (lv_room (Nat.le_of_ble_eq_true rfl)) dX12_areTangled_3 ⟨Nat.le_of_ble_eq_true rfl, Nat.le_of_ble_eq_true rfl⟩) hP hD hK hS hA [] [0, 1, 2] rfl rfl (by decide) (by decide) (fun z1 _u H locs hw hP hD hK hS => ?_)
  have b2 := hw
  have hP : va_P (dC, dI) vwCl [(a0, .inr (9, [g7, g8, g9, .ref a5, g10, g11, g12, g13, g14, g15, g16, g17, g18, g19, g20, g21, g22, g23, g24, g25, g26, g27, g28, g29, g30, g31, g32, g33, g34, g35])), (a5, .inr (8, [g36, g37, g38, g39, g40, g41, g42, g43, g44, g45, .ref a6, g46, g47, g48, g49, g50, g51, g52, g53, g54, g55, g56, g57, g58])), (a6, .inl (cB59, 5, .inl f60))] H := hP
  have hD : va_D A [(a0, .inr (9, [g7, g8, g9, .ref a5, g10, g11, g12, g13, g14, g15, g16, g17, g18, g19, g20, g21, g22, g23, g24, g25, g26, g27, g28, g29, g30, g31, g32, g33, g34, g35])), (a5, .inr (8, [g36, g37, g38, g39, g40, g41, g42, g43, g44, g45, .ref a6, g46, g47, g48, g49, g50, g51, g52, g53, g54, g55, g56, g57, g58])), (a6, .inl (cB59, 5, .inl f60))] := hD
  have hK : va_K (dC, dI) vwCl [(cB59, .int)] s := hK
  refine lv_aload_n hx hb dX12_areTangled_6 rfl (lv_at hl 0 rfl) ?_
  refine va_get (D := (dC, dI)) (ci := 9) (v := .ref a5) (C := RX12) (T := TX12) (N := 30) hx hb hts iX12_areTangled_X12 hown hK hP 0 rfl rfl 3 (by decide) (hts (.fieldLink RX12 299 "HookPierModel" "pier" "LHookPierModel$Pier;") (List.mem_of_getElem? (i := 5) rfl)) (fun _ h9 => h9) rfl dX12_areTangled_7 ?_
  refine va_getN (D := (dC, dI)) (ci := 8) (v := .ref a6) (C := RX11) (T := TX11) (N := 24) hx hb hts iX12_areTangled_X11 hown hK hP 1 rfl rfl 10 (by decide) (va_Nw.use rfl (hN.1 (.fieldLinkNest RX12 229 "HookPierModel$Pier" "reach" "[I" "HookPierModel") (List.mem_of_getElem? (i := 32) rfl))) (fun _ h9 => h9) rfl dX12_areTangled_10 ?_
  refine lv_iload_n hx hb dX12_areTangled_13 rfl (lv_at hl 1 rfl) ?_
  refine va_iald hx hb hK hP 2 0 rfl rfl (vp_in_iff.mpr (by omega)) dX12_areTangled_14 ?_
  refine lv_topi (fun z3 ez3 => ?_)
  clear ez3
  refine lv_aload_n hx hb dX12_areTangled_15 rfl (lv_at hl 0 rfl) ?_
  refine va_get (D := (dC, dI)) (ci := 9) (v := .ref a5) (C := RX12) (T := TX12) (N := 30) hx hb hts iX12_areTangled_X12 hown hK hP 0 rfl rfl 3 (by decide) (hts (.fieldLink RX12 299 "HookPierModel" "pier" "LHookPierModel$Pier;") (List.mem_of_getElem? (i := 5) rfl)) (fun _ h9 => h9) rfl dX12_areTangled_16 ?_
  refine va_getN (D := (dC, dI)) (ci := 8) (v := .ref a6) (C := RX11) (T := TX11) (N := 24) hx hb hts iX12_areTangled_X11 hown hK hP 1 rfl rfl 10 (by decide) (va_Nw.use rfl (hN.1 (.fieldLinkNest RX12 229 "HookPierModel$Pier" "reach" "[I" "HookPierModel") (List.mem_of_getElem? (i := 32) rfl))) (fun _ h9 => h9) rfl dX12_areTangled_19 ?_
  refine lv_iload_n hx hb dX12_areTangled_22 rfl (lv_at hl 3 rfl) ?_
  refine va_iald hx hb hK hP 2 0 rfl rfl (vp_in_iff.mpr (by omega)) dX12_areTangled_23 ?_
  refine lv_topi (fun z4 ez4 => ?_)
  clear ez4
  refine lv_iadd hx hb dX12_areTangled_24 ?_
  refine lv_topi (fun z5 ez5 => ?_)
  clear ez5
  refine lv_icmp_gt (tgt := 32) hx hb dX12_areTangled_25 (by decide) (fun c6 => ?_) (fun c6 => ?_)
  · simp only [fa_lt, fa_le, fa_eq, ltv_0] at c6
    refine lv_iconst (v := 0) hx hb dX12_areTangled_32 (by decide) ?_
    have hP9 := hP.sub (ws' := [(a0, .inr (9, [g7, g8, g9, .ref a5, g10, g11, g12, g13, g14, g15, g16, g17, g18, g19, g20, g21, g22, g23, g24, g25, g26, g27, g28, g29, g30, g31, g32, g33, g34, g35])), (a5, .inr (8, [g36, g37, g38, g39, g40, g41, g42, g43, g44, g45, .ref a6, g46, g47, g48, g49, g50, g51, g52, g53, g54, g55, g56, g57, g58])), (a6, .inl (cB59, 5, .inl f60))]) [0, 1, 2] rfl
    have hD9 := hD.sub (ws' := [(a0, .inr (9, [g7, g8, g9, .ref a5, g10, g11, g12, g13, g14, g15, g16, g17, g18, g19, g20, g21, g22, g23, g24, g25, g26, g27, g28, g29, g30, g31, g32, g33, g34, g35])), (a5, .inr (8, [g36, g37, g38, g39, g40, g41, g42, g43, g44, g45, .ref a6, g46, g47, g48, g49, g50, g51, g52, g53, g54, g55, g56, g57, g58])), (a6, .inl (cB59, 5, .inl f60))]) [0, 1, 2] (by decide) rfl
    have hK9 := hK.sub (tys' := []) [] rfl
    exact W.zret (v := 0) hx hb hr rfl (fun t ht hW => ⟨⟨0, (), rfl, (by first | trivial | omega | (simp only [ltv_0]; omega)), by rw [ht]; exact hP9, va_K.moved hW.alike hK9, hD9⟩, hS.F ht⟩) hS.2.2 dX12_areTangled_33
  · simp only [fa_lt, fa_le, fa_eq, ltv_0] at c6
    refine lv_iconst (v := 1) hx hb dX12_areTangled_28 (by decide) ?_
    refine lv_goto (tgt := 33) hx hb dX12_areTangled_29 (by decide) ?_
    have hP9 := hP.sub (ws' := [(a0, .inr (9, [g7, g8, g9, .ref a5, g10, g11, g12, g13, g14, g15, g16, g17, g18, g19, g20, g21, g22, g23, g24, g25, g26, g27, g28, g29, g30, g31, g32, g33, g34, g35])), (a5, .inr (8, [g36, g37, g38, g39, g40, g41, g42, g43, g44, g45, .ref a6, g46, g47, g48, g49, g50, g51, g52, g53, g54, g55, g56, g57, g58])), (a6, .inl (cB59, 5, .inl f60))]) [0, 1, 2] rfl
    have hD9 := hD.sub (ws' := [(a0, .inr (9, [g7, g8, g9, .ref a5, g10, g11, g12, g13, g14, g15, g16, g17, g18, g19, g20, g21, g22, g23, g24, g25, g26, g27, g28, g29, g30, g31, g32, g33, g34, g35])), (a5, .inr (8, [g36, g37, g38, g39, g40, g41, g42, g43, g44, g45, .ref a6, g46, g47, g48, g49, g50, g51, g52, g53, g54, g55, g56, g57, g58])), (a6, .inl (cB59, 5, .inl f60))]) [0, 1, 2] (by decide) rfl
    have hK9 := hK.sub (tys' := []) [] rfl
    exact W.zret (v := 1) hx hb hr rfl (fun t ht hW => ⟨⟨1, (), rfl, (by first | trivial | omega | (simp only [ltv_0, ltv_1]; omega)), by rw [ht]; exact hP9, va_K.moved hW.alike hK9, hD9⟩, hS.F ht⟩) hS.2.2 dX12_areTangled_33
theorem dX12_isTangled_0 : decode cX12_isTangled 0 = .ok (.iconst 0, 1) := by decide +kernel
theorem dX12_isTangled_1 : decode cX12_isTangled 1 = .ok (.istore_n 3, 1) := by decide +kernel
theorem dX12_isTangled_10 : decode cX12_isTangled 10 = .ok (.if_icmp .ge 56, 3) := by decide +kernel
theorem dX12_isTangled_13 : decode cX12_isTangled 13 = .ok (.iload_n 3, 1) := by decide +kernel
theorem dX12_isTangled_14 : decode cX12_isTangled 14 = .ok (.iload_n 2, 1) := by decide +kernel
theorem dX12_isTangled_15 : decode cX12_isTangled 15 = .ok (.if_icmp .eq 45, 3) := by decide +kernel
theorem dX12_isTangled_18 : decode cX12_isTangled 18 = .ok (.aload_n 1, 1) := by decide +kernel
theorem dX12_isTangled_19 : decode cX12_isTangled 19 = .ok (.bipush 18, 2) := by decide +kernel
theorem dX12_isTangled_2 : decode cX12_isTangled 2 = .ok (.iload_n 3, 1) := by decide +kernel
theorem dX12_isTangled_21 : decode cX12_isTangled 21 = .ok (.iload_n 3, 1) := by decide +kernel
theorem dX12_isTangled_22 : decode cX12_isTangled 22 = .ok (.iadd, 1) := by decide +kernel
theorem dX12_isTangled_23 : decode cX12_isTangled 23 = .ok (.iaload, 1) := by decide +kernel
theorem dX12_isTangled_24 : decode cX12_isTangled 24 = .ok (.bipush (-2), 2) := by decide +kernel
theorem dX12_isTangled_26 : decode cX12_isTangled 26 = .ok (.if_icmp .eq 34, 3) := by decide +kernel
theorem dX12_isTangled_29 : decode cX12_isTangled 29 = .ok (.aload_n 0, 1) := by decide +kernel
theorem dX12_isTangled_3 : decode cX12_isTangled 3 = .ok (.aload_n 0, 1) := by decide +kernel
theorem dX12_isTangled_30 : decode cX12_isTangled 30 = .ok (.iload_n 2, 1) := by decide +kernel
theorem dX12_isTangled_31 : decode cX12_isTangled 31 = .ok (.aload_n 0, 1) := by decide +kernel
theorem dX12_isTangled_32 : decode cX12_isTangled 32 = .ok (.aload_n 1, 1) := by decide +kernel
theorem dX12_isTangled_33 : decode cX12_isTangled 33 = .ok (.bipush 18, 2) := by decide +kernel
theorem dX12_isTangled_35 : decode cX12_isTangled 35 = .ok (.iload_n 2, 1) := by decide +kernel
theorem dX12_isTangled_36 : decode cX12_isTangled 36 = .ok (.iadd, 1) := by decide +kernel
theorem dX12_isTangled_37 : decode cX12_isTangled 37 = .ok (.iaload, 1) := by decide +kernel
theorem dX12_isTangled_38 : decode cX12_isTangled 38 = .ok (.invokevirtual 307, 3) := by decide +kernel
theorem dX12_isTangled_4 : decode cX12_isTangled 4 = .ok (.getfield 299, 3) := by decide +kernel
theorem dX12_isTangled_41 : decode cX12_isTangled 41 = .ok (.iload_n 3, 1) := by decide +kernel
theorem dX12_isTangled_42 : decode cX12_isTangled 42 = .ok (.aload_n 0, 1) := by decide +kernel
theorem dX12_isTangled_43 : decode cX12_isTangled 43 = .ok (.aload_n 1, 1) := by decide +kernel
theorem dX12_isTangled_44 : decode cX12_isTangled 44 = .ok (.bipush 18, 2) := by decide +kernel
theorem dX12_isTangled_46 : decode cX12_isTangled 46 = .ok (.iload_n 3, 1) := by decide +kernel
theorem dX12_isTangled_47 : decode cX12_isTangled 47 = .ok (.iadd, 1) := by decide +kernel
theorem dX12_isTangled_48 : decode cX12_isTangled 48 = .ok (.iaload, 1) := by decide +kernel
theorem dX12_isTangled_49 : decode cX12_isTangled 49 = .ok (.invokevirtual 307, 3) := by decide +kernel
theorem dX12_isTangled_52 : decode cX12_isTangled 52 = .ok (.invokevirtual 330, 3) := by decide +kernel
theorem dX12_isTangled_55 : decode cX12_isTangled 55 = .ok (.ifCond .eq 5, 3) := by decide +kernel
theorem dX12_isTangled_58 : decode cX12_isTangled 58 = .ok (.iconst 1, 1) := by decide +kernel
theorem dX12_isTangled_59 : decode cX12_isTangled 59 = .ok (.ireturn, 1) := by decide +kernel
theorem dX12_isTangled_60 : decode cX12_isTangled 60 = .ok (.iinc 3 1, 3) := by decide +kernel
theorem dX12_isTangled_63 : decode cX12_isTangled 63 = .ok (.goto (-61), 3) := by decide +kernel
theorem dX12_isTangled_66 : decode cX12_isTangled 66 = .ok (.iconst 0, 1) := by decide +kernel
theorem dX12_isTangled_67 : decode cX12_isTangled 67 = .ok (.ireturn, 1) := by decide +kernel
theorem dX12_isTangled_7 : decode cX12_isTangled 7 = .ok (.getfield 224, 3) := by decide +kernel
def vX12_isTangled : List Cond := .code yX12_isTangled cX12_isTangled 4 (some .boolean) :: ([.fieldLink RX12 299 "HookPierModel" "pier" "LHookPierModel$Pier;", .methodLink RX12 307 yX12_spotOf, .instanceMethod yX12_spotOf, .selects RX12 yX12_spotOf yX12_spotOf, .initialized RX12, .code yX12_spotOf cX12_spotOf 2 (some .int), .methodLink RX12 330 yX12_areTangled, .instanceMethod yX12_areTangled, .selects RX12 yX12_areTangled yX12_areTangled, .code yX12_areTangled cX12_areTangled 5 (some .boolean), .methodLink RX12 327 yX12_apart, .static yX12_apart, .code yX12_apart cX12_apart 2 (some .int)] ++ wsX120 ++ wsX110)
theorem iX12_isTangled_X12 : ∀ w ∈ wsX120, w ∈ vX12_isTangled := fun _ h => List.mem_cons_of_mem _ (List.mem_append_left _ (List.mem_append_right _ h))
theorem iX12_isTangled_X11 : ∀ w ∈ wsX110, w ∈ vX12_isTangled := fun _ h => List.mem_cons_of_mem _ (List.mem_append_right _ h)
set_option maxRecDepth 20000 in
theorem gX12_isTangled_0 : GoodIn vX12_isTangled (wsV RX12 307 RX12 yX12_spotOf vX12_spotOf) := goodIn_app (goodIn_r [.methodLink RX12 307 yX12_spotOf, .instanceMethod yX12_spotOf, .selects RX12 yX12_spotOf yX12_spotOf, .initialized RX12] [2, 3, 4, 5] (by decide +kernel) (by decide +kernel)) (goodIn_ca (goodIn_ca (goodIn_r (.code yX12_spotOf cX12_spotOf 2 (some .int) :: [.fieldLink RX12 299 "HookPierModel" "pier" "LHookPierModel$Pier;"]) [6, 1] (by decide +kernel) (by decide +kernel) : GoodIn vX12_isTangled (.code yX12_spotOf cX12_spotOf 2 (some .int) :: [.fieldLink RX12 299 "HookPierModel" "pier" "LHookPierModel$Pier;"])) (goodIn_sub iX12_isTangled_X12 (by decide +kernel))) (goodIn_sub iX12_isTangled_X11 (by decide +kernel)))
set_option maxRecDepth 20000 in
theorem gX12_isTangled_1 : GoodIn vX12_isTangled (wsV RX12 330 RX12 yX12_areTangled vX12_areTangled) := goodIn_app (goodIn_r [.methodLink RX12 330 yX12_areTangled, .instanceMethod yX12_areTangled, .selects RX12 yX12_areTangled yX12_areTangled, .initialized RX12] [7, 8, 9, 5] (by decide +kernel) (by decide +kernel)) (goodIn_ca (goodIn_ca (goodIn_r (.code yX12_areTangled cX12_areTangled 5 (some .boolean) :: [.methodLink RX12 327 yX12_apart, .static yX12_apart, .initialized RX12, .code yX12_apart cX12_apart 2 (some .int), .fieldLink RX12 299 "HookPierModel" "pier" "LHookPierModel$Pier;"]) [10, 11, 12, 5, 13, 1] (by decide +kernel) (by decide +kernel) : GoodIn vX12_isTangled (.code yX12_areTangled cX12_areTangled 5 (some .boolean) :: [.methodLink RX12 327 yX12_apart, .static yX12_apart, .initialized RX12, .code yX12_apart cX12_apart 2 (some .int), .fieldLink RX12 299 "HookPierModel" "pier" "LHookPierModel$Pier;"])) (goodIn_sub iX12_isTangled_X12 (by decide +kernel))) (goodIn_sub iX12_isTangled_X11 (by decide +kernel)))
set_option maxHeartbeats 2000000 in
set_option maxRecDepth 100000 in
theorem kX12_isTangled (l : Launch) (dC : Nat → ClassId) (dI : Nat → Nat → Nat) (a0 : Nat) (a1 : Nat) (k2 : Int32) (a3 : Nat) (a4 : Nat) (g5 : Value) (g6 : Value) (g7 : Value) (g8 : Value) (g9 : Value) (g10 : Value) (g11 : Value) (g12 : Value) (g13 : Value) (g14 : Value) (g15 : Value) (g16 : Value) (g17 : Value) (g18 : Value) (g19 : Value) (g20 : Value) (g21 : Value) (g22 : Value) (g23 : Value) (g24 : Value) (g25 : Value) (g26 : Value) (g27 : Value) (g28 : Value) (g29 : Value) (g30 : Value) (g31 : Value) (g32 : Value) (g33 : Value) (cB34 : ClassId) (f35 : Nat → Int32) (g36 : Value) (k37 : Int32) (g38 : Value) (g39 : Value) (k40 : Int32) (k41 : Int32) (g42 : Value) (g43 : Value) (g44 : Value) (g45 : Value) (g46 : Value) (g47 : Value) (g48 : Value) (g49 : Value) (g50 : Value) (g51 : Value) (g52 : Value) (g53 : Value) (g54 : Value) (g55 : Value) (g56 : Value) (g57 : Value) (g58 : Value) (cB59 : ClassId) (f60 : Nat → Int32) (hk2 : (0 ≤ k2.toInt ∧ k2.toInt ≤ 4)) (hk37 : (1 ≤ k37.toInt ∧ k37.toInt ≤ 9)) (hk40 : (1 ≤ k40.toInt ∧ k40.toInt ≤ 4)) (hk41 : (0 ≤ k41.toInt ∧ k41.toInt ≤ 5)) (sz : Nat) : Met l yX12_isTangled vX12_isTangled ({ frames := 2, cells := 0, slots := 0, locals := 45 }) (PC (dC, dI) [.ref a0, .ref a1, .int k2] sz [(a0, .inr (9, [g5, g6, g7, .ref a3, g8, g9, g10, g11, g12, g13, g14, g15, g16, g17, g18, g19, g20, g21, g22, g23, g24, g25, g26, g27, g28, g29, g30, g31, g32, g33])), (a1, .inl (cB34, 26, .inl f35)), (a3, .inr (8, [g36, .int k37, g38, g39, .int k40, .int k41, g42, g43, g44, g45, .ref a4, g46, g47, g48, g49, g50, g51, g52, g53, g54, g55, g56, g57, g58])), (a4, .inl (cB59, 5, .inl f60))] [(cB34, .int), (cB59, .int)]) (va_Qi (S := Unit) (fun (r : Int32) _ => (0 ≤ r.toInt ∧ r.toInt ≤ 1)) (fun _ t => BC (dC, dI) (va_A [(a0, .inr (9, [g5, g6, g7, .ref a3, g8, g9, g10, g11, g12, g13, g14, g15, g16, g17, g18, g19, g20, g21, g22, g23, g24, g25, g26, g27, g28, g29, g30, g31, g32, g33])), (a1, .inl (cB34, 26, .inl f35)), (a3, .inr (8, [g36, .int k37, g38, g39, .int k40, .int k41, g42, g43, g44, g45, .ref a4, g46, g47, g48, g49, g50, g51, g52, g53, g54, g55, g56, g57, g58])), (a4, .inl (cB59, 5, .inl f60))] sz) [(a0, .inr (9, [g5, g6, g7, .ref a3, g8, g9, g10, g11, g12, g13, g14, g15, g16, g17, g18, g19, g20, g21, g22, g23, g24, g25, g26, g27, g28, g29, g30, g31, g32, g33])), (a1, .inl (cB34, 26, .inl f35)), (a3, .inr (8, [g36, .int k37, g38, g39, .int k40, .int k41, g42, g43, g44, g45, .ref a4, g46, g47, g48, g49, g50, g51, g52, g53, g54, g55, g56, g57, g58])), (a4, .inl (cB59, 5, .inl f60))] [] t) (va_A [(a0, .inr (9, [g5, g6, g7, .ref a3, g8, g9, g10, g11, g12, g13, g14, g15, g16, g17, g18, g19, g20, g21, g22, g23, g24, g25, g26, g27, g28, g29, g30, g31, g32, g33])), (a1, .inl (cB34, 26, .inl f35)), (a3, .inr (8, [g36, .int k37, g38, g39, .int k40, .int k41, g42, g43, g44, g45, .ref a4, g46, g47, g48, g49, g50, g51, g52, g53, g54, g55, g56, g57, g58])), (a4, .inl (cB59, 5, .inl f60))] sz)) 0 0 (va_A [(a0, .inr (9, [g5, g6, g7, .ref a3, g8, g9, g10, g11, g12, g13, g14, g15, g16, g17, g18, g19, g20, g21, g22, g23, g24, g25, g26, g27, g28, g29, g30, g31, g32, g33])), (a1, .inl (cB34, 26, .inl f35)), (a3, .inr (8, [g36, .int k37, g38, g39, .int k40, .int k41, g42, g43, g44, g45, .ref a4, g46, g47, g48, g49, g50, g51, g52, g53, g54, g55, g56, g57, g58])), (a4, .inl (cB59, 5, .inl f60))] sz) := by
  refine Met.ofW (cc := cX12_isTangled) (maxL := 4) (ret := (some .boolean)) (by decide) rfl ?_
  intro p e s m args below meth c s₁ B hml hv
  obtain ⟨rfl, hsz, hP, hK, hD0, hN⟩ := hv
  have hx := B.exec
  have hb := B.bytes
  have hr := B.returns
  have hts := atoms_spec (ws := vX12_isTangled) B.pre
  have hown : s.vm.findClass RX12 = some m.cls := findClass_of_methodNamed B.named
  have hlocks := B.notSynchronized
  subst hsz
  have hD := hD0.self (sz := s.heap.size)
  generalize hAe : va_A [(a0, .inr (9, [g5, g6, g7, .ref a3, g8, g9, g10, g11, g12, g13, g14, g15, g16, g17, g18, g19, g20, g21, g22, g23, g24, g25, g26, g27, g28, g29, g30, g31, g32, g33])), (a1, .inl (cB34, 26, .inl f35)), (a3, .inr (8, [g36, .int k37, g38, g39, .int k40, .int k41, g42, g43, g44, g45, .ref a4, g46, g47, g48, g49, g50, g51, g52, g53, g54, g55, g56, g57, g58])), (a4, .inl (cB59, 5, .inl f60))] s.heap.size = A at hD ⊢
  have hA : ∀ q : Nat, s.heap.size ≤ q → A q := fun q h => by rw [← hAe]; exact Or.inr h
  have hS : va_S A s.heap s.heap [] := va_S.rf
  have hP : va_P (dC, dI) vwCl [(a0, .inr (9, [g5, g6, g7, .ref a3, g8, g9, g10, g11, g12, g13, g14, g15, g16, g17, g18, g19, g20, g21, g22, g23, g24, g25, g26, g27, g28, g29, g30, g31, g32, g33])), (a1, .inl (cB34, 26, .inl f35)), (a3, .inr (8, [g36, .int k37, g38, g39, .int k40, .int k41, g42, g43, g44, g45, .ref a4, g46, g47, g48, g49, g50, g51, g52, g53, g54, g55, g56, g57, g58])), (a4, .inl (cB59, 5, .inl f60))] s.heap := hP
  have hl := lv_entry ([.ref a0, .ref a1, .int k2]) (n := 4) (Nat.le_of_ble_eq_true rfl)
  rw [lg_entry_eq]
  generalize (lg_sl ([.ref a0, .ref a1, .int k2]) ++ List.replicate (4 - (lg_sl ([.ref a0, .ref a1, .int k2])).length) Slot.unset).toArray = ls at hl ⊢
  have hl : lv_has ls 4 [(0, .ref a0), (1, .ref a1), (2, .int k2)] := hl
  refine lv_iconst (v := 0) hx hb dX12_isTangled_0 (by decide) ?_
  refine lv_istore_n (lv' := [(3, .int 0), (0, .ref a0), (1, .ref a1), (2, .int k2)]) hx hb dX12_isTangled_1 rfl hl (by decide) rfl (fun ls hl => ?_)
  have L2_95 : ∀ (n : Nat) (z94 : Int32) (H : Heap) (locs : List Loc) (ls : Array Slot), (0 ≤ z94.toInt ∧ z94.toInt ≤ 5) → 5 - z94.toInt < (n : Int) → va_P (dC, dI) vwCl [(a0, .inr (9, [g5, g6, g7, .ref a3, g8, g9, g10, g11, g12, g13, g14, g15, g16, g17, g18, g19, g20, g21, g22, g23, g24, g25, g26, g27, g28, g29, g30, g31, g32, g33])), (a1, .inl (cB34, 26, .inl f35)), (a3, .inr (8, [g36, .int k37, g38, g39, .int k40, .int k41, g42, g43, g44, g45, .ref a4, g46, g47, g48, g49, g50, g51, g52, g53, g54, g55, g56, g57, g58])), (a4, .inl (cB59, 5, .inl f60))] H → va_D A [(a0, .inr (9, [g5, g6, g7, .ref a3, g8, g9, g10, g11, g12, g13, g14, g15, g16, g17, g18, g19, g20, g21, g22, g23, g24, g25, g26, g27, g28, g29, g30, g31, g32, g33])), (a1, .inl (cB34, 26, .inl f35)), (a3, .inr (8, [g36, .int k37, g38, g39, .int k40, .int k41, g42, g43, g44, g45, .ref a4, g46, g47, g48, g49, g50, g51, g52, g53, g54, g55, g56, g57, g58])), (a4, .inl (cB59, 5, .inl f60))] → va_S A s.heap H locs → lv_has ls 4 [(3, .int z94), (0, .ref a0), (1, .ref a1), (2, .int k2)] → W p l e (headSpec vX12_isTangled { frames := 2, cells := 0, slots := 0, locals := 45 }).room s m ([.ref a0, .ref a1, .int k2]).toArray below meth c H locs 0 0 (MQ below (va_Qi (S := Unit) (fun (r : Int32) _ => (0 ≤ r.toInt ∧ r.toInt ≤ 1)) (fun _ t => BC (dC, dI) A [(a0, .inr (9, [g5, g6, g7, .ref a3, g8, g9, g10, g11, g12, g13, g14, g15, g16, g17, g18, g19, g20, g21, g22, g23, g24, g25, g26, g27, g28, g29, g30, g31, g32, g33])), (a1, .inl (cB34, 26, .inl f35)), (a3, .inr (8, [g36, .int k37, g38, g39, .int k40, .int k41, g42, g43, g44, g45, .ref a4, g46, g47, g48, g49, g50, g51, g52, g53, g54, g55, g56, g57, g58])), (a4, .inl (cB59, 5, .inl f60))] [] t) A) ([.ref a0, .ref a1, .int k2]).toArray s 0 0 A) (F0 m 2 ls []) := by
    intro n
    induction n with
    | zero =>
      intro z94 H locs ls b2_0 hm _ _ _ _
      exact absurd hm (by omega)
    | succ n ih2 =>
      intro z94 H locs ls b2_0 hm2 hP hD hS hl
      refine lv_iload_n hx hb dX12_isTangled_2 rfl (lv_at hl 0 rfl) ?_
      refine lv_aload_n hx hb dX12_isTangled_3 rfl (lv_at hl 1 rfl) ?_
      refine va_get (D := (dC, dI)) (ci := 9) (v := .ref a3) (C := RX12) (T := TX12) (N := 30) hx hb hts iX12_isTangled_X12 hown hK hP 0 rfl rfl 3 (by decide) (hts (.fieldLink RX12 299 "HookPierModel" "pier" "LHookPierModel$Pier;") (List.mem_of_getElem? (i := 1) rfl)) (fun _ h9 => h9) rfl dX12_isTangled_4 ?_
      refine va_getN (D := (dC, dI)) (ci := 8) (v := .int k41) (C := RX11) (T := TX11) (N := 24) hx hb hts iX12_isTangled_X11 hown hK hP 2 rfl rfl 5 (by decide) (va_Nw.use rfl (hN.1 (.fieldLinkNest RX12 224 "HookPierModel$Pier" "askers" "I" "HookPierModel") (List.mem_of_getElem? (i := 27) rfl))) (fun _ h9 => h9) rfl dX12_isTangled_7 ?_
      refine lv_icmp_ge (tgt := 66) hx hb dX12_isTangled_10 (by decide) (fun c96 => ?_) (fun c96 => ?_)
      · simp only [fa_lt, fa_le, fa_eq, ltv_0] at c96
        refine lv_iconst (v := 0) hx hb dX12_isTangled_66 (by decide) ?_
        have hP9 := hP.sub (ws' := [(a0, .inr (9, [g5, g6, g7, .ref a3, g8, g9, g10, g11, g12, g13, g14, g15, g16, g17, g18, g19, g20, g21, g22, g23, g24, g25, g26, g27, g28, g29, g30, g31, g32, g33])), (a1, .inl (cB34, 26, .inl f35)), (a3, .inr (8, [g36, .int k37, g38, g39, .int k40, .int k41, g42, g43, g44, g45, .ref a4, g46, g47, g48, g49, g50, g51, g52, g53, g54, g55, g56, g57, g58])), (a4, .inl (cB59, 5, .inl f60))]) [0, 1, 2, 3] rfl
        have hD9 := hD.sub (ws' := [(a0, .inr (9, [g5, g6, g7, .ref a3, g8, g9, g10, g11, g12, g13, g14, g15, g16, g17, g18, g19, g20, g21, g22, g23, g24, g25, g26, g27, g28, g29, g30, g31, g32, g33])), (a1, .inl (cB34, 26, .inl f35)), (a3, .inr (8, [g36, .int k37, g38, g39, .int k40, .int k41, g42, g43, g44, g45, .ref a4, g46, g47, g48, g49, g50, g51, g52, g53, g54, g55, g56, g57, g58])), (a4, .inl (cB59, 5, .inl f60))]) [0, 1, 2, 3] (by decide) rfl
        have hK9 := hK.sub (tys' := []) [] rfl
        exact W.zret (v := 0) hx hb hr rfl (fun t ht hW => ⟨⟨0, (), rfl, (by first | trivial | omega | (simp only [ltv_0]; omega)), by rw [ht]; exact hP9, va_K.moved hW.alike hK9, hD9⟩, hS.F ht⟩) hS.2.2 dX12_isTangled_67
      · simp only [fa_lt, fa_le, fa_eq, ltv_0] at c96
        refine lv_iload_n hx hb dX12_isTangled_13 rfl (lv_at hl 0 rfl) ?_
        refine lv_iload_n hx hb dX12_isTangled_14 rfl (lv_at hl 3 rfl) ?_
        refine lv_icmp_eq (tgt := 60) hx hb dX12_isTangled_15 (by decide) (fun c97 => ?_) (fun c97 => ?_)
        · simp only [fa_lt, fa_le, fa_eq, ltv_0] at c97
          obtain ⟨z98, ez98⟩ : ∃ y : Int32, y = z94 + 1 := ⟨_, rfl⟩
          have tz98 : z98.toInt = z94.toInt + 1 := by rw [ez98, iadd_t (by simp only [ltv_1]; omega) (by simp only [ltv_1]; omega)]; simp only [ltv_1]
          refine lv_iinc (v := z98) (lv' := [(3, .int z98), (0, .ref a0), (1, .ref a1), (2, .int k2)]) hx hb dX12_isTangled_60 hl (k := 0) rfl (by rw [ez98]; rfl) (by decide) rfl (fun ls hl => ?_)
          refine lv_goto (tgt := 2) hx hb dX12_isTangled_63 (by decide) ?_
          exact ih2 z98 H locs ls (by first | omega | (simp only [ltv_0]; omega)) (by first | omega | (simp only [ltv_0]; omega)) hP hD hS (lv_sub hl [0, 1, 2, 3] rfl)
        · simp only [fa_lt, fa_le, fa_eq, ltv_0] at c97
          refine lv_aload_n hx hb dX12_isTangled_18 rfl (lv_at hl 2 rfl) ?_
          refine lv_bipush (v := 18) hx hb dX12_isTangled_19 (by decide) ?_
          refine lv_iload_n hx hb dX12_isTangled_21 rfl (lv_at hl 0 rfl) ?_
          refine lv_iadd hx hb dX12_isTangled_22 ?_
          refine lv_topi (fun z99 ez99 => ?_)
          have tz99 : z99.toInt = 18 + z94.toInt := by rw [ez99]; rw [iadd_t (by first | omega | (simp only [ltv_0, ltv_18]; omega)) (by first | omega | (simp only [ltv_0, ltv_18]; omega))]; first | done | (simp only [ltv_0, ltv_18])
          refine va_iald hx hb hK hP 1 0 rfl rfl (vp_in_iff.mpr (by omega)) dX12_isTangled_23 ?_
          refine lv_topi (fun z100 ez100 => ?_)
          clear ez100
          refine lv_bipush (v := (-2)) hx hb dX12_isTangled_24 (by decide) ?_
          refine lv_icmp_eq (tgt := 60) hx hb dX12_isTangled_26 (by decide) (fun c101 => ?_) (fun c101 => ?_)
          · simp only [fa_lt, fa_le, fa_eq, ltv_m2, ltv_0] at c101
            obtain ⟨z102, ez102⟩ : ∃ y : Int32, y = z94 + 1 := ⟨_, rfl⟩
            have tz102 : z102.toInt = z94.toInt + 1 := by rw [ez102, iadd_t (by simp only [ltv_1]; omega) (by simp only [ltv_1]; omega)]; simp only [ltv_1]
            refine lv_iinc (v := z102) (lv' := [(3, .int z102), (0, .ref a0), (1, .ref a1), (2, .int k2)]) hx hb dX12_isTangled_60 hl (k := 0) rfl (by rw [ez102]; rfl) (by decide) rfl (fun ls hl => ?_)
            refine lv_goto (tgt := 2) hx hb dX12_isTangled_63 (by decide) ?_
            exact ih2 z102 H locs ls (by first | omega | (simp only [ltv_0]; omega)) (by first | omega | (simp only [ltv_0]; omega)) hP hD hS (lv_sub hl [0, 1, 2, 3] rfl)
          · simp only [fa_lt, fa_le, fa_eq, ltv_m2, ltv_0] at c101
            refine lv_aload_n hx hb dX12_isTangled_29 rfl (lv_at hl 1 rfl) ?_
            refine lv_iload_n hx hb dX12_isTangled_30 rfl (lv_at hl 3 rfl) ?_
            refine lv_aload_n hx hb dX12_isTangled_31 rfl (lv_at hl 1 rfl) ?_
            refine lv_aload_n hx hb dX12_isTangled_32 rfl (lv_at hl 2 rfl) ?_
            refine lv_bipush (v := 18) hx hb dX12_isTangled_33 (by decide) ?_
            refine lv_iload_n hx hb dX12_isTangled_35 rfl (lv_at hl 3 rfl) ?_
            refine lv_iadd hx hb dX12_isTangled_36 ?_
            refine lv_topi (fun z103 ez103 => ?_)
            have tz103 : z103.toInt = 18 + k2.toInt := by rw [ez103]; rw [iadd_t (by first | omega | (simp only [ltv_0, ltv_18]; omega)) (by first | omega | (simp only [ltv_0, ltv_18]; omega))]; first | done | (simp only [ltv_0, ltv_18])
            refine va_iald hx hb hK hP 1 0 rfl rfl (vp_in_iff.mpr (by omega)) dX12_isTangled_37 ?_
            refine lv_topi (fun z104 ez104 => ?_)
            clear ez104
            refine cl_i (wc := [(a0, .inr (9, [g5, g6, g7, .ref a3, g8, g9, g10, g11, g12, g13, g14, g15, g16, g17, g18, g19, g20, g21, g22, g23, g24, g25, g26, g27, g28, g29, g30, g31, g32, g33])), (a3, .inr (8, [g36, .int k37, g38, g39, .int k40, .int k41, g42, g43, g44, g45, .ref a4, g46, g47, g48, g49, g50, g51, g52, g53, g54, g55, g56, g57, g58]))]) (wr := [(a1, .inl (cB34, 26, .inl f35)), (a4, .inl (cB59, 5, .inl f60))]) (va_runV (As := [.int z104]) (rest := [.int k2, .ref a0]) ⟨hx, hb, hml, hown, hts⟩ (kX12_spotOf l dC dI a0 z104 a3 (g5) (g6) (g7) (g8) (g9) (g10) (g11) (g12) (g13) (g14) (g15) (g16) (g17) (g18) (g19) (g20) (g21) (g22) (g23) (g24) (g25) (g26) (g27) (g28) (g29) (g30) (g31) (g32) (g33) (g36) k37 (g38) (g39) k40 (.int k41) (g42) (g43) (g44) (g45) (.ref a4) (g46) (g47) (g48) (g49) (g50) (g51) (g52) (g53) (g54) (g55) (g56) (g57) (g58) (by first | omega | (simp only [ltv_0]; omega)) (by first | omega | (simp only [ltv_0]; omega)) H.size) (cwV 1 hts gX12_isTangled_0 rfl rfl rfl (by decide +kernel) ⟨Nat.le_of_ble_eq_true rfl, Nat.le_of_ble_eq_true rfl⟩) (PV (hP.sub (ws' := [(a0, .inr (9, [g5, g6, g7, .ref a3, g8, g9, g10, g11, g12, g13, g14, g15, g16, g17, g18, g19, g20, g21, g22, g23, g24, g25, g26, g27, g28, g29, g30, g31, g32, g33])), (a3, .inr (8, [g36, .int k37, g38, g39, .int k40, .int k41, g42, g43, g44, g45, .ref a4, g46, g47, g48, g49, g50, g51, g52, g53, g54, g55, g56, g57, g58]))]) [0, 2] rfl) (hK.sub (tys' := []) [] rfl) (hD.sub (ws' := [(a0, .inr (9, [g5, g6, g7, .ref a3, g8, g9, g10, g11, g12, g13, g14, g15, g16, g17, g18, g19, g20, g21, g22, g23, g24, g25, g26, g27, g28, g29, g30, g31, g32, g33])), (a3, .inr (8, [g36, .int k37, g38, g39, .int k40, .int k41, g42, g43, g44, g45, .ref a4, g46, g47, g48, g49, g50, g51, g52, g53, g54, g55, g56, g57, g58]))]) [0, 2] (by decide) rfl) hN 0 rfl rfl) rfl rfl hl.1 rfl (lv_room (Nat.le_of_ble_eq_true rfl)) dX12_isTangled_38 ⟨Nat.le_of_ble_eq_true rfl, Nat.le_of_ble_eq_true rfl⟩) hP hD hK hS hA [0, 2] [1, 3] rfl rfl (by decide) (by decide) (fun z105 _u H locs hw hP hD hK hS => ?_)
            have b106 := hw
            have hP : va_P (dC, dI) vwCl [(a1, .inl (cB34, 26, .inl f35)), (a4, .inl (cB59, 5, .inl f60)), (a0, .inr (9, [g5, g6, g7, .ref a3, g8, g9, g10, g11, g12, g13, g14, g15, g16, g17, g18, g19, g20, g21, g22, g23, g24, g25, g26, g27, g28, g29, g30, g31, g32, g33])), (a3, .inr (8, [g36, .int k37, g38, g39, .int k40, .int k41, g42, g43, g44, g45, .ref a4, g46, g47, g48, g49, g50, g51, g52, g53, g54, g55, g56, g57, g58]))] H := hP
            have hD : va_D A [(a1, .inl (cB34, 26, .inl f35)), (a4, .inl (cB59, 5, .inl f60)), (a0, .inr (9, [g5, g6, g7, .ref a3, g8, g9, g10, g11, g12, g13, g14, g15, g16, g17, g18, g19, g20, g21, g22, g23, g24, g25, g26, g27, g28, g29, g30, g31, g32, g33])), (a3, .inr (8, [g36, .int k37, g38, g39, .int k40, .int k41, g42, g43, g44, g45, .ref a4, g46, g47, g48, g49, g50, g51, g52, g53, g54, g55, g56, g57, g58]))] := hD
            have hK : va_K (dC, dI) vwCl [(cB34, .int), (cB59, .int)] s := hK
            refine lv_iload_n hx hb dX12_isTangled_41 rfl (lv_at hl 0 rfl) ?_
            refine lv_aload_n hx hb dX12_isTangled_42 rfl (lv_at hl 1 rfl) ?_
            refine lv_aload_n hx hb dX12_isTangled_43 rfl (lv_at hl 2 rfl) ?_
            refine lv_bipush (v := 18) hx hb dX12_isTangled_44 (by decide) ?_
            refine lv_iload_n hx hb dX12_isTangled_46 rfl (lv_at hl 0 rfl) ?_
            refine lv_iadd hx hb dX12_isTangled_47 ?_
            refine lv_topi (fun z107 ez107 => ?_)
            have tz107 : z107.toInt = 18 + z94.toInt := by rw [ez107]; rw [iadd_t (by first | omega | (simp only [ltv_0, ltv_18]; omega)) (by first | omega | (simp only [ltv_0, ltv_18]; omega))]; first | done | (simp only [ltv_0, ltv_18])
            refine va_iald hx hb hK hP 0 0 rfl rfl (vp_in_iff.mpr (by omega)) dX12_isTangled_48 ?_
            refine lv_topi (fun z108 ez108 => ?_)
            clear ez108
            refine cl_i (wc := [(a0, .inr (9, [g5, g6, g7, .ref a3, g8, g9, g10, g11, g12, g13, g14, g15, g16, g17, g18, g19, g20, g21, g22, g23, g24, g25, g26, g27, g28, g29, g30, g31, g32, g33])), (a3, .inr (8, [g36, .int k37, g38, g39, .int k40, .int k41, g42, g43, g44, g45, .ref a4, g46, g47, g48, g49, g50, g51, g52, g53, g54, g55, g56, g57, g58]))]) (wr := [(a1, .inl (cB34, 26, .inl f35)), (a4, .inl (cB59, 5, .inl f60))]) (va_runV (As := [.int z108]) (rest := [.int z94, .int z105, .int k2, .ref a0]) ⟨hx, hb, hml, hown, hts⟩ (kX12_spotOf l dC dI a0 z108 a3 (g5) (g6) (g7) (g8) (g9) (g10) (g11) (g12) (g13) (g14) (g15) (g16) (g17) (g18) (g19) (g20) (g21) (g22) (g23) (g24) (g25) (g26) (g27) (g28) (g29) (g30) (g31) (g32) (g33) (g36) k37 (g38) (g39) k40 (.int k41) (g42) (g43) (g44) (g45) (.ref a4) (g46) (g47) (g48) (g49) (g50) (g51) (g52) (g53) (g54) (g55) (g56) (g57) (g58) (by first | omega | (simp only [ltv_0]; omega)) (by first | omega | (simp only [ltv_0]; omega)) H.size) (cwV 1 hts gX12_isTangled_0 rfl rfl rfl (by decide +kernel) ⟨Nat.le_of_ble_eq_true rfl, Nat.le_of_ble_eq_true rfl⟩) (PV (hP.sub (ws' := [(a0, .inr (9, [g5, g6, g7, .ref a3, g8, g9, g10, g11, g12, g13, g14, g15, g16, g17, g18, g19, g20, g21, g22, g23, g24, g25, g26, g27, g28, g29, g30, g31, g32, g33])), (a3, .inr (8, [g36, .int k37, g38, g39, .int k40, .int k41, g42, g43, g44, g45, .ref a4, g46, g47, g48, g49, g50, g51, g52, g53, g54, g55, g56, g57, g58]))]) [2, 3] rfl) (hK.sub (tys' := []) [] rfl) (hD.sub (ws' := [(a0, .inr (9, [g5, g6, g7, .ref a3, g8, g9, g10, g11, g12, g13, g14, g15, g16, g17, g18, g19, g20, g21, g22, g23, g24, g25, g26, g27, g28, g29, g30, g31, g32, g33])), (a3, .inr (8, [g36, .int k37, g38, g39, .int k40, .int k41, g42, g43, g44, g45, .ref a4, g46, g47, g48, g49, g50, g51, g52, g53, g54, g55, g56, g57, g58]))]) [2, 3] (by decide) rfl) hN 0 rfl rfl) rfl rfl hl.1 rfl (lv_room (Nat.le_of_ble_eq_true rfl)) dX12_isTangled_49 ⟨Nat.le_of_ble_eq_true rfl, Nat.le_of_ble_eq_true rfl⟩) hP hD hK hS hA [2, 3] [0, 1] rfl rfl (by decide) (by decide) (fun z109 _u H locs hw hP hD hK hS => ?_)
            have b110 := hw
            have hP : va_P (dC, dI) vwCl [(a1, .inl (cB34, 26, .inl f35)), (a4, .inl (cB59, 5, .inl f60)), (a0, .inr (9, [g5, g6, g7, .ref a3, g8, g9, g10, g11, g12, g13, g14, g15, g16, g17, g18, g19, g20, g21, g22, g23, g24, g25, g26, g27, g28, g29, g30, g31, g32, g33])), (a3, .inr (8, [g36, .int k37, g38, g39, .int k40, .int k41, g42, g43, g44, g45, .ref a4, g46, g47, g48, g49, g50, g51, g52, g53, g54, g55, g56, g57, g58]))] H := hP
            have hD : va_D A [(a1, .inl (cB34, 26, .inl f35)), (a4, .inl (cB59, 5, .inl f60)), (a0, .inr (9, [g5, g6, g7, .ref a3, g8, g9, g10, g11, g12, g13, g14, g15, g16, g17, g18, g19, g20, g21, g22, g23, g24, g25, g26, g27, g28, g29, g30, g31, g32, g33])), (a3, .inr (8, [g36, .int k37, g38, g39, .int k40, .int k41, g42, g43, g44, g45, .ref a4, g46, g47, g48, g49, g50, g51, g52, g53, g54, g55, g56, g57, g58]))] := hD
            have hK : va_K (dC, dI) vwCl [(cB34, .int), (cB59, .int)] s := hK
            refine cl_i (wc := [(a0, .inr (9, [g5, g6, g7, .ref a3, g8, g9, g10, g11, g12, g13, g14, g15, g16, g17, g18, g19, g20, g21, g22, g23, g24, g25, g26, g27, g28, g29, g30, g31, g32, g33])), (a3, .inr (8, [g36, .int k37, g38, g39, .int k40, .int k41, g42, g43, g44, g45, .ref a4, g46, g47, g48, g49, g50, g51, g52, g53, g54, g55, g56, g57, g58])), (a4, .inl (cB59, 5, .inl f60))]) (wr := [(a1, .inl (cB34, 26, .inl f35))]) (va_runV (As := [.int k2, .int z105, .int z94, .int z109]) (rest := []) ⟨hx, hb, hml, hown, hts⟩ (kX12_areTangled l dC dI a0 k2 z105 z94 z109 a3 a4 (g5) (g6) (g7) (g8) (g9) (g10) (g11) (g12) (g13) (g14) (g15) (g16) (g17) (g18) (g19) (g20) (g21) (g22) (g23) (g24) (g25) (g26) (g27) (g28) (g29) (g30) (g31) (g32) (g33) (g36) (.int k37) (g38) (g39) (.int k40) (.int k41) (g42) (g43) (g44) (g45) (g46) (g47) (g48) (g49) (g50) (g51) (g52) (g53) (g54) (g55) (g56) (g57) (g58) cB59 f60 (by first | omega | (simp only [ltv_0]; omega)) (by first | omega | (simp only [ltv_0]; omega)) H.size) (cwV 4 hts gX12_isTangled_1 rfl rfl rfl (by decide +kernel) ⟨Nat.le_of_ble_eq_true rfl, Nat.le_of_ble_eq_true rfl⟩) (PV (hP.sub (ws' := [(a0, .inr (9, [g5, g6, g7, .ref a3, g8, g9, g10, g11, g12, g13, g14, g15, g16, g17, g18, g19, g20, g21, g22, g23, g24, g25, g26, g27, g28, g29, g30, g31, g32, g33])), (a3, .inr (8, [g36, .int k37, g38, g39, .int k40, .int k41, g42, g43, g44, g45, .ref a4, g46, g47, g48, g49, g50, g51, g52, g53, g54, g55, g56, g57, g58])), (a4, .inl (cB59, 5, .inl f60))]) [2, 3, 1] rfl) (hK.sub (tys' := [(cB59, .int)]) [1] rfl) (hD.sub (ws' := [(a0, .inr (9, [g5, g6, g7, .ref a3, g8, g9, g10, g11, g12, g13, g14, g15, g16, g17, g18, g19, g20, g21, g22, g23, g24, g25, g26, g27, g28, g29, g30, g31, g32, g33])), (a3, .inr (8, [g36, .int k37, g38, g39, .int k40, .int k41, g42, g43, g44, g45, .ref a4, g46, g47, g48, g49, g50, g51, g52, g53, g54, g55, g56, g57, g58])), (a4, .inl (cB59, 5, .inl f60))]) [2, 3, 1] (by decide) rfl) hN 0 rfl rfl) rfl rfl hl.1 rfl (lv_room (Nat.le_of_ble_eq_true rfl)) dX12_isTangled_52 ⟨Nat.le_of_ble_eq_true rfl, Nat.le_of_ble_eq_true rfl⟩) hP hD hK hS hA [2, 3, 1] [0] rfl rfl (by decide) (by decide) (fun z111 _u H locs hw hP hD hK hS => ?_)
            have b112 := hw
            have hP : va_P (dC, dI) vwCl [(a1, .inl (cB34, 26, .inl f35)), (a0, .inr (9, [g5, g6, g7, .ref a3, g8, g9, g10, g11, g12, g13, g14, g15, g16, g17, g18, g19, g20, g21, g22, g23, g24, g25, g26, g27, g28, g29, g30, g31, g32, g33])), (a3, .inr (8, [g36, .int k37, g38, g39, .int k40, .int k41, g42, g43, g44, g45, .ref a4, g46, g47, g48, g49, g50, g51, g52, g53, g54, g55, g56, g57, g58])), (a4, .inl (cB59, 5, .inl f60))] H := hP
            have hD : va_D A [(a1, .inl (cB34, 26, .inl f35)), (a0, .inr (9, [g5, g6, g7, .ref a3, g8, g9, g10, g11, g12, g13, g14, g15, g16, g17, g18, g19, g20, g21, g22, g23, g24, g25, g26, g27, g28, g29, g30, g31, g32, g33])), (a3, .inr (8, [g36, .int k37, g38, g39, .int k40, .int k41, g42, g43, g44, g45, .ref a4, g46, g47, g48, g49, g50, g51, g52, g53, g54, g55, g56, g57, g58])), (a4, .inl (cB59, 5, .inl f60))] := hD
            have hK : va_K (dC, dI) vwCl [(cB34, .int), (cB59, .int)] s := hK
            refine lv_if_eq (tgt := 60) hx hb dX12_isTangled_55 (by decide) (fun c113 => ?_) (fun c113 => ?_)
            · simp only [fa_lt, fa_le, fa_eq, ltv_0] at c113
              obtain ⟨z114, ez114⟩ : ∃ y : Int32, y = z94 + 1 := ⟨_, rfl⟩
              have tz114 : z114.toInt = z94.toInt + 1 := by rw [ez114, iadd_t (by simp only [ltv_1]; omega) (by simp only [ltv_1]; omega)]; simp only [ltv_1]
              refine lv_iinc (v := z114) (lv' := [(3, .int z114), (0, .ref a0), (1, .ref a1), (2, .int k2)]) hx hb dX12_isTangled_60 hl (k := 0) rfl (by rw [ez114]; rfl) (by decide) rfl (fun ls hl => ?_)
              refine lv_goto (tgt := 2) hx hb dX12_isTangled_63 (by decide) ?_
              exact ih2 z114 H locs ls (by first | omega | (simp only [ltv_0]; omega)) (by first | omega | (simp only [ltv_0]; omega)) (hP.sub (ws' := [(a0, .inr (9, [g5, g6, g7, .ref a3, g8, g9, g10, g11, g12, g13, g14, g15, g16, g17, g18, g19, g20, g21, g22, g23, g24, g25, g26, g27, g28, g29, g30, g31, g32, g33])), (a1, .inl (cB34, 26, .inl f35)), (a3, .inr (8, [g36, .int k37, g38, g39, .int k40, .int k41, g42, g43, g44, g45, .ref a4, g46, g47, g48, g49, g50, g51, g52, g53, g54, g55, g56, g57, g58])), (a4, .inl (cB59, 5, .inl f60))]) [1, 0, 2, 3] rfl) (hD.sub (ws' := [(a0, .inr (9, [g5, g6, g7, .ref a3, g8, g9, g10, g11, g12, g13, g14, g15, g16, g17, g18, g19, g20, g21, g22, g23, g24, g25, g26, g27, g28, g29, g30, g31, g32, g33])), (a1, .inl (cB34, 26, .inl f35)), (a3, .inr (8, [g36, .int k37, g38, g39, .int k40, .int k41, g42, g43, g44, g45, .ref a4, g46, g47, g48, g49, g50, g51, g52, g53, g54, g55, g56, g57, g58])), (a4, .inl (cB59, 5, .inl f60))]) [1, 0, 2, 3] (by decide) rfl) hS (lv_sub hl [0, 1, 2, 3] rfl)
            · simp only [fa_lt, fa_le, fa_eq, ltv_0] at c113
              refine lv_iconst (v := 1) hx hb dX12_isTangled_58 (by decide) ?_
              have hP9 := hP.sub (ws' := [(a0, .inr (9, [g5, g6, g7, .ref a3, g8, g9, g10, g11, g12, g13, g14, g15, g16, g17, g18, g19, g20, g21, g22, g23, g24, g25, g26, g27, g28, g29, g30, g31, g32, g33])), (a1, .inl (cB34, 26, .inl f35)), (a3, .inr (8, [g36, .int k37, g38, g39, .int k40, .int k41, g42, g43, g44, g45, .ref a4, g46, g47, g48, g49, g50, g51, g52, g53, g54, g55, g56, g57, g58])), (a4, .inl (cB59, 5, .inl f60))]) [1, 0, 2, 3] rfl
              have hD9 := hD.sub (ws' := [(a0, .inr (9, [g5, g6, g7, .ref a3, g8, g9, g10, g11, g12, g13, g14, g15, g16, g17, g18, g19, g20, g21, g22, g23, g24, g25, g26, g27, g28, g29, g30, g31, g32, g33])), (a1, .inl (cB34, 26, .inl f35)), (a3, .inr (8, [g36, .int k37, g38, g39, .int k40, .int k41, g42, g43, g44, g45, .ref a4, g46, g47, g48, g49, g50, g51, g52, g53, g54, g55, g56, g57, g58])), (a4, .inl (cB59, 5, .inl f60))]) [1, 0, 2, 3] (by decide) rfl
              have hK9 := hK.sub (tys' := []) [] rfl
              exact W.zret (v := 1) hx hb hr rfl (fun t ht hW => ⟨⟨1, (), rfl, (by first | trivial | omega | (simp only [ltv_0, ltv_1]; omega)), by rw [ht]; exact hP9, va_K.moved hW.alike hK9, hD9⟩, hS.F ht⟩) hS.2.2 dX12_isTangled_59
  exact L2_95 6 (0) s.heap _ ls (by first | omega | (simp only [ltv_0]; omega)) (by first | omega | (simp only [ltv_0]; omega)) hP hD hS (lv_sub hl [0, 1, 2, 3] rfl)
