theorem dX12_isLetter_0 : decode cX12_isLetter 0 = .ok (.iload_n 0, 1) := by decide +kernel
theorem dX12_isLetter_1 : decode cX12_isLetter 1 = .ok (.bipush 97, 2) := by decide +kernel
theorem dX12_isLetter_12 : decode cX12_isLetter 12 = .ok (.iconst 1, 1) := by decide +kernel
theorem dX12_isLetter_13 : decode cX12_isLetter 13 = .ok (.goto 4, 3) := by decide +kernel
theorem dX12_isLetter_16 : decode cX12_isLetter 16 = .ok (.iconst 0, 1) := by decide +kernel
theorem dX12_isLetter_17 : decode cX12_isLetter 17 = .ok (.ireturn, 1) := by decide +kernel
theorem dX12_isLetter_3 : decode cX12_isLetter 3 = .ok (.if_icmp .lt 13, 3) := by decide +kernel
theorem dX12_isLetter_6 : decode cX12_isLetter 6 = .ok (.iload_n 0, 1) := by decide +kernel
theorem dX12_isLetter_7 : decode cX12_isLetter 7 = .ok (.bipush 122, 2) := by decide +kernel
theorem dX12_isLetter_9 : decode cX12_isLetter 9 = .ok (.if_icmp .gt 7, 3) := by decide +kernel
def vfX12_isLetter : List Cond := .code yX12_isLetter cX12_isLetter 1 (some .boolean) :: ([])
theorem qfX12_isLetter : Good vfX12_isLetter := gd_cons (by decide +kernel) (gd_dec (by decide +kernel) : Good [])
set_option maxHeartbeats 2000000 in
set_option maxRecDepth 100000 in
theorem kfX12_isLetter (l : Launch) (dC : Nat → ClassId) (dI : Nat → Nat → Nat) (k0 : Int32) (sz : Nat) (out : Int32) (h : f_X12_isLetter k0 = out) : Met l yX12_isLetter vfX12_isLetter ({ frames := 0, cells := 0, slots := 0, locals := 0 }) (PC (dC, dI) [.int k0] sz [] ([])) (va_Qi (S := Unit) (fun (r : Int32) _ => r = out ∧ (0 ≤ r.toInt ∧ r.toInt ≤ 1)) (fun _ t => BC (dC, dI) (va_A [] sz) [] [] t) (va_A [] sz)) 0 0 (va_A [] sz) := by
  refine Met.ofW (cc := cX12_isLetter) (maxL := 1) (ret := (some .boolean)) (by decide) rfl ?_
  intro p e s m args below meth c s₁ B0 hml hv
  obtain ⟨rfl, hsz, hP, hK, hD0, hN⟩ := hv
  have hx := B0.exec
  have hb := B0.bytes
  have hr := B0.returns
  have hts := atoms_spec (ws := vfX12_isLetter) B0.pre
  have hown : s.vm.findClass RX12 = some m.cls := findClass_of_methodNamed B0.named
  have hlocks := B0.notSynchronized
  subst hsz
  have hD := hD0.self (sz := s.heap.size)
  generalize hAe : va_A [] s.heap.size = A at hD ⊢
  have hA : ∀ q : Nat, s.heap.size ≤ q → A q := fun q h => by rw [← hAe]; exact Or.inr h
  have hS : va_S A s.heap s.heap [] := va_S.rf
  have hP : va_P (dC, dI) vwCl [] s.heap := hP
  have hl := lv_entry ([.int k0]) (n := 1) (Nat.le_of_ble_eq_true rfl)
  rw [lg_entry_eq]
  generalize (lg_sl ([.int k0]) ++ List.replicate (1 - (lg_sl ([.int k0])).length) Slot.unset).toArray = ls at hl ⊢
  have hl : lv_has ls 1 [(0, .int k0)] := hl
  refine W_q (fun QQ hQQ => ?_)
  rw [f_X12_isLetter] at h
  refine lv_iload_n hx hb dX12_isLetter_0 rfl (lv_at hl 0 rfl) ?_
  refine lv_bipush (v := 97) hx hb dX12_isLetter_1 (by decide) ?_
  refine lv_icmp_lt (tgt := 16) hx hb dX12_isLetter_3 (by decide) (fun c3 => ?_) (fun c3 => ?_)
  · have h := (if_pos c3).symm.trans h
    refine lv_iconst (v := 0) hx hb dX12_isLetter_16 (by decide) ?_
    obtain rfl := h
    have hP9 := hP.sub (ws' := []) [] rfl
    have hD9 := hD.sub (ws' := []) [] (by decide) rfl
    have hK9 := hK.sub (tys' := []) [] rfl
    rw [hQQ]
    exact W.zret (v := (0 : Int32)) hx hb hr rfl (fun t ht hW => ⟨⟨(0 : Int32), (), rfl, ⟨rfl, (by decide)⟩, by rw [ht]; exact hP9, va_K.moved hW.alike hK9, hD9⟩, hS.F ht⟩) hS.2.2 dX12_isLetter_17
  · have h := (if_neg c3).symm.trans h
    refine lv_iload_n hx hb dX12_isLetter_6 rfl (lv_at hl 0 rfl) ?_
    refine lv_bipush (v := 122) hx hb dX12_isLetter_7 (by decide) ?_
    refine lv_icmp_gt (tgt := 16) hx hb dX12_isLetter_9 (by decide) (fun c9 => ?_) (fun c9 => ?_)
    · have h := (if_pos c9).symm.trans h
      refine lv_iconst (v := 0) hx hb dX12_isLetter_16 (by decide) ?_
      obtain rfl := h
      have hP9 := hP.sub (ws' := []) [] rfl
      have hD9 := hD.sub (ws' := []) [] (by decide) rfl
      have hK9 := hK.sub (tys' := []) [] rfl
      rw [hQQ]
      exact W.zret (v := (0 : Int32)) hx hb hr rfl (fun t ht hW => ⟨⟨(0 : Int32), (), rfl, ⟨rfl, (by decide)⟩, by rw [ht]; exact hP9, va_K.moved hW.alike hK9, hD9⟩, hS.F ht⟩) hS.2.2 dX12_isLetter_17
    · have h := (if_neg c9).symm.trans h
      refine lv_iconst (v := 1) hx hb dX12_isLetter_12 (by decide) ?_
      refine lv_goto (tgt := 17) hx hb dX12_isLetter_13 (by decide) ?_
      obtain rfl := h
      have hP9 := hP.sub (ws' := []) [] rfl
      have hD9 := hD.sub (ws' := []) [] (by decide) rfl
      have hK9 := hK.sub (tys' := []) [] rfl
      rw [hQQ]
      exact W.zret (v := (1 : Int32)) hx hb hr rfl (fun t ht hW => ⟨⟨(1 : Int32), (), rfl, ⟨rfl, (by decide)⟩, by rw [ht]; exact hP9, va_K.moved hW.alike hK9, hD9⟩, hS.F ht⟩) hS.2.2 dX12_isLetter_17
theorem dX12_isDigit_0 : decode cX12_isDigit 0 = .ok (.iload_n 0, 1) := by decide +kernel
theorem dX12_isDigit_1 : decode cX12_isDigit 1 = .ok (.bipush 48, 2) := by decide +kernel
theorem dX12_isDigit_12 : decode cX12_isDigit 12 = .ok (.iconst 1, 1) := by decide +kernel
theorem dX12_isDigit_13 : decode cX12_isDigit 13 = .ok (.goto 4, 3) := by decide +kernel
theorem dX12_isDigit_16 : decode cX12_isDigit 16 = .ok (.iconst 0, 1) := by decide +kernel
theorem dX12_isDigit_17 : decode cX12_isDigit 17 = .ok (.ireturn, 1) := by decide +kernel
theorem dX12_isDigit_3 : decode cX12_isDigit 3 = .ok (.if_icmp .lt 13, 3) := by decide +kernel
theorem dX12_isDigit_6 : decode cX12_isDigit 6 = .ok (.iload_n 0, 1) := by decide +kernel
theorem dX12_isDigit_7 : decode cX12_isDigit 7 = .ok (.bipush 57, 2) := by decide +kernel
theorem dX12_isDigit_9 : decode cX12_isDigit 9 = .ok (.if_icmp .gt 7, 3) := by decide +kernel
def vfX12_isDigit : List Cond := .code yX12_isDigit cX12_isDigit 1 (some .boolean) :: ([])
theorem qfX12_isDigit : Good vfX12_isDigit := gd_cons (by decide +kernel) (gd_dec (by decide +kernel) : Good [])
set_option maxHeartbeats 2000000 in
set_option maxRecDepth 100000 in
theorem kfX12_isDigit (l : Launch) (dC : Nat → ClassId) (dI : Nat → Nat → Nat) (k0 : Int32) (sz : Nat) (out : Int32) (h : f_X12_isDigit k0 = out) : Met l yX12_isDigit vfX12_isDigit ({ frames := 0, cells := 0, slots := 0, locals := 0 }) (PC (dC, dI) [.int k0] sz [] ([])) (va_Qi (S := Unit) (fun (r : Int32) _ => r = out ∧ (0 ≤ r.toInt ∧ r.toInt ≤ 1)) (fun _ t => BC (dC, dI) (va_A [] sz) [] [] t) (va_A [] sz)) 0 0 (va_A [] sz) := by
  refine Met.ofW (cc := cX12_isDigit) (maxL := 1) (ret := (some .boolean)) (by decide) rfl ?_
  intro p e s m args below meth c s₁ B0 hml hv
  obtain ⟨rfl, hsz, hP, hK, hD0, hN⟩ := hv
  have hx := B0.exec
  have hb := B0.bytes
  have hr := B0.returns
  have hts := atoms_spec (ws := vfX12_isDigit) B0.pre
  have hown : s.vm.findClass RX12 = some m.cls := findClass_of_methodNamed B0.named
  have hlocks := B0.notSynchronized
  subst hsz
  have hD := hD0.self (sz := s.heap.size)
  generalize hAe : va_A [] s.heap.size = A at hD ⊢
  have hA : ∀ q : Nat, s.heap.size ≤ q → A q := fun q h => by rw [← hAe]; exact Or.inr h
  have hS : va_S A s.heap s.heap [] := va_S.rf
  have hP : va_P (dC, dI) vwCl [] s.heap := hP
  have hl := lv_entry ([.int k0]) (n := 1) (Nat.le_of_ble_eq_true rfl)
  rw [lg_entry_eq]
  generalize (lg_sl ([.int k0]) ++ List.replicate (1 - (lg_sl ([.int k0])).length) Slot.unset).toArray = ls at hl ⊢
  have hl : lv_has ls 1 [(0, .int k0)] := hl
  refine W_q (fun QQ hQQ => ?_)
  rw [f_X12_isDigit] at h
  refine lv_iload_n hx hb dX12_isDigit_0 rfl (lv_at hl 0 rfl) ?_
  refine lv_bipush (v := 48) hx hb dX12_isDigit_1 (by decide) ?_
  refine lv_icmp_lt (tgt := 16) hx hb dX12_isDigit_3 (by decide) (fun c3 => ?_) (fun c3 => ?_)
  · have h := (if_pos c3).symm.trans h
    refine lv_iconst (v := 0) hx hb dX12_isDigit_16 (by decide) ?_
    obtain rfl := h
    have hP9 := hP.sub (ws' := []) [] rfl
    have hD9 := hD.sub (ws' := []) [] (by decide) rfl
    have hK9 := hK.sub (tys' := []) [] rfl
    rw [hQQ]
    exact W.zret (v := (0 : Int32)) hx hb hr rfl (fun t ht hW => ⟨⟨(0 : Int32), (), rfl, ⟨rfl, (by decide)⟩, by rw [ht]; exact hP9, va_K.moved hW.alike hK9, hD9⟩, hS.F ht⟩) hS.2.2 dX12_isDigit_17
  · have h := (if_neg c3).symm.trans h
    refine lv_iload_n hx hb dX12_isDigit_6 rfl (lv_at hl 0 rfl) ?_
    refine lv_bipush (v := 57) hx hb dX12_isDigit_7 (by decide) ?_
    refine lv_icmp_gt (tgt := 16) hx hb dX12_isDigit_9 (by decide) (fun c9 => ?_) (fun c9 => ?_)
    · have h := (if_pos c9).symm.trans h
      refine lv_iconst (v := 0) hx hb dX12_isDigit_16 (by decide) ?_
      obtain rfl := h
      have hP9 := hP.sub (ws' := []) [] rfl
      have hD9 := hD.sub (ws' := []) [] (by decide) rfl
      have hK9 := hK.sub (tys' := []) [] rfl
      rw [hQQ]
      exact W.zret (v := (0 : Int32)) hx hb hr rfl (fun t ht hW => ⟨⟨(0 : Int32), (), rfl, ⟨rfl, (by decide)⟩, by rw [ht]; exact hP9, va_K.moved hW.alike hK9, hD9⟩, hS.F ht⟩) hS.2.2 dX12_isDigit_17
    · have h := (if_neg c9).symm.trans h
      refine lv_iconst (v := 1) hx hb dX12_isDigit_12 (by decide) ?_
      refine lv_goto (tgt := 17) hx hb dX12_isDigit_13 (by decide) ?_
      obtain rfl := h
      have hP9 := hP.sub (ws' := []) [] rfl
      have hD9 := hD.sub (ws' := []) [] (by decide) rfl
      have hK9 := hK.sub (tys' := []) [] rfl
      rw [hQQ]
      exact W.zret (v := (1 : Int32)) hx hb hr rfl (fun t ht hW => ⟨⟨(1 : Int32), (), rfl, ⟨rfl, (by decide)⟩, by rw [ht]; exact hP9, va_K.moved hW.alike hK9, hD9⟩, hS.F ht⟩) hS.2.2 dX12_isDigit_17
theorem dX12_in_0 : decode cX12_in 0 = .ok (.iload_n 0, 1) := by decide +kernel
theorem dX12_in_1 : decode cX12_in 1 = .ok (.iload_n 1, 1) := by decide +kernel
theorem dX12_in_10 : decode cX12_in 10 = .ok (.iconst 1, 1) := by decide +kernel
theorem dX12_in_11 : decode cX12_in 11 = .ok (.goto 4, 3) := by decide +kernel
theorem dX12_in_14 : decode cX12_in 14 = .ok (.iconst 0, 1) := by decide +kernel
theorem dX12_in_15 : decode cX12_in 15 = .ok (.ireturn, 1) := by decide +kernel
theorem dX12_in_2 : decode cX12_in 2 = .ok (.if_icmp .lt 12, 3) := by decide +kernel
theorem dX12_in_5 : decode cX12_in 5 = .ok (.iload_n 0, 1) := by decide +kernel
theorem dX12_in_6 : decode cX12_in 6 = .ok (.iload_n 2, 1) := by decide +kernel
theorem dX12_in_7 : decode cX12_in 7 = .ok (.if_icmp .gt 7, 3) := by decide +kernel
def vfX12_in : List Cond := .code yX12_in cX12_in 3 (some .boolean) :: ([])
theorem qfX12_in : Good vfX12_in := gd_cons (by decide +kernel) (gd_dec (by decide +kernel) : Good [])
set_option maxHeartbeats 2000000 in
set_option maxRecDepth 100000 in
theorem kfX12_in (l : Launch) (dC : Nat → ClassId) (dI : Nat → Nat → Nat) (k0 : Int32) (k1 : Int32) (k2 : Int32) (sz : Nat) (out : Int32) (h : f_X12_in k0 k1 k2 = out) : Met l yX12_in vfX12_in ({ frames := 0, cells := 0, slots := 0, locals := 0 }) (PC (dC, dI) [.int k0, .int k1, .int k2] sz [] ([])) (va_Qi (S := Unit) (fun (r : Int32) _ => r = out ∧ (0 ≤ r.toInt ∧ r.toInt ≤ 1)) (fun _ t => BC (dC, dI) (va_A [] sz) [] [] t) (va_A [] sz)) 0 0 (va_A [] sz) := by
  refine Met.ofW (cc := cX12_in) (maxL := 3) (ret := (some .boolean)) (by decide) rfl ?_
  intro p e s m args below meth c s₁ B0 hml hv
  obtain ⟨rfl, hsz, hP, hK, hD0, hN⟩ := hv
  have hx := B0.exec
  have hb := B0.bytes
  have hr := B0.returns
  have hts := atoms_spec (ws := vfX12_in) B0.pre
  have hown : s.vm.findClass RX12 = some m.cls := findClass_of_methodNamed B0.named
  have hlocks := B0.notSynchronized
  subst hsz
  have hD := hD0.self (sz := s.heap.size)
  generalize hAe : va_A [] s.heap.size = A at hD ⊢
  have hA : ∀ q : Nat, s.heap.size ≤ q → A q := fun q h => by rw [← hAe]; exact Or.inr h
  have hS : va_S A s.heap s.heap [] := va_S.rf
  have hP : va_P (dC, dI) vwCl [] s.heap := hP
  have hl := lv_entry ([.int k0, .int k1, .int k2]) (n := 3) (Nat.le_of_ble_eq_true rfl)
  rw [lg_entry_eq]
  generalize (lg_sl ([.int k0, .int k1, .int k2]) ++ List.replicate (3 - (lg_sl ([.int k0, .int k1, .int k2])).length) Slot.unset).toArray = ls at hl ⊢
  have hl : lv_has ls 3 [(0, .int k0), (1, .int k1), (2, .int k2)] := hl
  refine W_q (fun QQ hQQ => ?_)
  rw [f_X12_in] at h
  refine lv_iload_n hx hb dX12_in_0 rfl (lv_at hl 0 rfl) ?_
  refine lv_iload_n hx hb dX12_in_1 rfl (lv_at hl 1 rfl) ?_
  refine lv_icmp_lt (tgt := 14) hx hb dX12_in_2 (by decide) (fun c2 => ?_) (fun c2 => ?_)
  · have h := (if_pos c2).symm.trans h
    refine lv_iconst (v := 0) hx hb dX12_in_14 (by decide) ?_
    obtain rfl := h
    have hP9 := hP.sub (ws' := []) [] rfl
    have hD9 := hD.sub (ws' := []) [] (by decide) rfl
    have hK9 := hK.sub (tys' := []) [] rfl
    rw [hQQ]
    exact W.zret (v := (0 : Int32)) hx hb hr rfl (fun t ht hW => ⟨⟨(0 : Int32), (), rfl, ⟨rfl, (by decide)⟩, by rw [ht]; exact hP9, va_K.moved hW.alike hK9, hD9⟩, hS.F ht⟩) hS.2.2 dX12_in_15
  · have h := (if_neg c2).symm.trans h
    refine lv_iload_n hx hb dX12_in_5 rfl (lv_at hl 0 rfl) ?_
    refine lv_iload_n hx hb dX12_in_6 rfl (lv_at hl 2 rfl) ?_
    refine lv_icmp_gt (tgt := 14) hx hb dX12_in_7 (by decide) (fun c7 => ?_) (fun c7 => ?_)
    · have h := (if_pos c7).symm.trans h
      refine lv_iconst (v := 0) hx hb dX12_in_14 (by decide) ?_
      obtain rfl := h
      have hP9 := hP.sub (ws' := []) [] rfl
      have hD9 := hD.sub (ws' := []) [] (by decide) rfl
      have hK9 := hK.sub (tys' := []) [] rfl
      rw [hQQ]
      exact W.zret (v := (0 : Int32)) hx hb hr rfl (fun t ht hW => ⟨⟨(0 : Int32), (), rfl, ⟨rfl, (by decide)⟩, by rw [ht]; exact hP9, va_K.moved hW.alike hK9, hD9⟩, hS.F ht⟩) hS.2.2 dX12_in_15
    · have h := (if_neg c7).symm.trans h
      refine lv_iconst (v := 1) hx hb dX12_in_10 (by decide) ?_
      refine lv_goto (tgt := 15) hx hb dX12_in_11 (by decide) ?_
      obtain rfl := h
      have hP9 := hP.sub (ws' := []) [] rfl
      have hD9 := hD.sub (ws' := []) [] (by decide) rfl
      have hK9 := hK.sub (tys' := []) [] rfl
      rw [hQQ]
      exact W.zret (v := (1 : Int32)) hx hb hr rfl (fun t ht hW => ⟨⟨(1 : Int32), (), rfl, ⟨rfl, (by decide)⟩, by rw [ht]; exact hP9, va_K.moved hW.alike hK9, hD9⟩, hS.F ht⟩) hS.2.2 dX12_in_15
theorem dX12_byteAt_0 : decode cX12_byteAt 0 = .ok (.iload_n 1, 1) := by decide +kernel
theorem dX12_byteAt_1 : decode cX12_byteAt 1 = .ok (.aload_n 0, 1) := by decide +kernel
theorem dX12_byteAt_12 : decode cX12_byteAt 12 = .ok (.iload_n 1, 1) := by decide +kernel
theorem dX12_byteAt_13 : decode cX12_byteAt 13 = .ok (.baload, 1) := by decide +kernel
theorem dX12_byteAt_14 : decode cX12_byteAt 14 = .ok (.sipush 255, 3) := by decide +kernel
theorem dX12_byteAt_17 : decode cX12_byteAt 17 = .ok (.iand, 1) := by decide +kernel
theorem dX12_byteAt_18 : decode cX12_byteAt 18 = .ok (.goto 4, 3) := by decide +kernel
theorem dX12_byteAt_2 : decode cX12_byteAt 2 = .ok (.getfield 53, 3) := by decide +kernel
theorem dX12_byteAt_21 : decode cX12_byteAt 21 = .ok (.iconst (-1), 1) := by decide +kernel
theorem dX12_byteAt_22 : decode cX12_byteAt 22 = .ok (.ireturn, 1) := by decide +kernel
theorem dX12_byteAt_5 : decode cX12_byteAt 5 = .ok (.if_icmp .ge 16, 3) := by decide +kernel
theorem dX12_byteAt_8 : decode cX12_byteAt 8 = .ok (.aload_n 0, 1) := by decide +kernel
theorem dX12_byteAt_9 : decode cX12_byteAt 9 = .ok (.getfield 13, 3) := by decide +kernel
def vfX12_byteAt : List Cond := List.cons (.code yX12_byteAt cX12_byteAt 2 (some .int)) (apW [.fieldLink RX12 53 "HookPierModel" "size" "I", .fieldLink RX12 13 "HookPierModel" "tape" "[B"] (wsX120))
theorem ifX12_byteAt_X12 : ∀ w ∈ wsX120, w ∈ vfX12_byteAt := fun _ h => (List.mem_cons_of_mem _ (List.mem_append_right _ h))
theorem qfX12_byteAt : Good vfX12_byteAt := gd_cons (by decide +kernel) (gd_app (gd_dec (by decide +kernel) : Good [.fieldLink RX12 53 "HookPierModel" "size" "I", .fieldLink RX12 13 "HookPierModel" "tape" "[B"]) qsX12)
set_option maxHeartbeats 2000000 in
set_option maxRecDepth 100000 in
theorem kfX12_byteAt (l : Launch) (dC : Nat → ClassId) (dI : Nat → Nat → Nat) (a0 : Nat) (k1 : Int32) (a2 : Nat) (m_s : TX12_s) (g4 : Value) (g5 : Value) (g6 : Value) (g7 : Value) (g8 : Value) (g9 : Value) (g10 : Value) (g11 : Value) (g12 : Value) (g13 : Value) (g14 : Value) (g15 : Value) (g16 : Value) (g17 : Value) (g18 : Value) (g19 : Value) (g20 : Value) (g21 : Value) (g22 : Value) (g23 : Value) (cB24 : ClassId) (sz : Nat) (out : Int32) (h : f_X12_byteAt k1 m_s = some out) : Met l yX12_byteAt vfX12_byteAt ({ frames := 0, cells := 0, slots := 0, locals := 0 }) (PC (dC, dI) [.ref a0, .int k1] sz ([(a0, .inr (9, [g4, g5, g6, g7, g8, .ref a2, .int m_s.2.1, .int m_s.2.2.1, .int m_s.2.2.2.1, .int m_s.2.2.2.2.1, .int m_s.2.2.2.2.2.1, .int m_s.2.2.2.2.2.2.1, .int m_s.2.2.2.2.2.2.2.1, .int m_s.2.2.2.2.2.2.2.2.1, .long m_s.2.2.2.2.2.2.2.2.2, g9, g10, g11, g12, g13, g14, g15, g16, g17, g18, g19, g20, g21, g22, g23])), (a2, .inl (cB24, 900, .inl m_s.1))]) ((cB24, .byte) :: [])) (va_Qi (S := Unit) (fun (r : Int32) _ => r = out) (fun _ t => BC (dC, dI) (va_A ([(a0, .inr (9, [g4, g5, g6, g7, g8, .ref a2, .int m_s.2.1, .int m_s.2.2.1, .int m_s.2.2.2.1, .int m_s.2.2.2.2.1, .int m_s.2.2.2.2.2.1, .int m_s.2.2.2.2.2.2.1, .int m_s.2.2.2.2.2.2.2.1, .int m_s.2.2.2.2.2.2.2.2.1, .long m_s.2.2.2.2.2.2.2.2.2, g9, g10, g11, g12, g13, g14, g15, g16, g17, g18, g19, g20, g21, g22, g23])), (a2, .inl (cB24, 900, .inl m_s.1))]) sz) ([(a0, .inr (9, [g4, g5, g6, g7, g8, .ref a2, .int m_s.2.1, .int m_s.2.2.1, .int m_s.2.2.2.1, .int m_s.2.2.2.2.1, .int m_s.2.2.2.2.2.1, .int m_s.2.2.2.2.2.2.1, .int m_s.2.2.2.2.2.2.2.1, .int m_s.2.2.2.2.2.2.2.2.1, .long m_s.2.2.2.2.2.2.2.2.2, g9, g10, g11, g12, g13, g14, g15, g16, g17, g18, g19, g20, g21, g22, g23])), (a2, .inl (cB24, 900, .inl m_s.1))]) [] t) (va_A ([(a0, .inr (9, [g4, g5, g6, g7, g8, .ref a2, .int m_s.2.1, .int m_s.2.2.1, .int m_s.2.2.2.1, .int m_s.2.2.2.2.1, .int m_s.2.2.2.2.2.1, .int m_s.2.2.2.2.2.2.1, .int m_s.2.2.2.2.2.2.2.1, .int m_s.2.2.2.2.2.2.2.2.1, .long m_s.2.2.2.2.2.2.2.2.2, g9, g10, g11, g12, g13, g14, g15, g16, g17, g18, g19, g20, g21, g22, g23])), (a2, .inl (cB24, 900, .inl m_s.1))]) sz)) 0 0 (va_A ([(a0, .inr (9, [g4, g5, g6, g7, g8, .ref a2, .int m_s.2.1, .int m_s.2.2.1, .int m_s.2.2.2.1, .int m_s.2.2.2.2.1, .int m_s.2.2.2.2.2.1, .int m_s.2.2.2.2.2.2.1, .int m_s.2.2.2.2.2.2.2.1, .int m_s.2.2.2.2.2.2.2.2.1, .long m_s.2.2.2.2.2.2.2.2.2, g9, g10, g11, g12, g13, g14, g15, g16, g17, g18, g19, g20, g21, g22, g23])), (a2, .inl (cB24, 900, .inl m_s.1))]) sz) := by
  refine Met.ofW (cc := cX12_byteAt) (maxL := 2) (ret := (some .int)) (by decide) rfl ?_
  intro p e s m args below meth c s₁ B0 hml hv
  obtain ⟨rfl, hsz, hP, hK, hD0, hN⟩ := hv
  have hx := B0.exec
  have hb := B0.bytes
  have hr := B0.returns
  have hts := atoms_spec (ws := vfX12_byteAt) B0.pre
  have hown : s.vm.findClass RX12 = some m.cls := findClass_of_methodNamed B0.named
  have hlocks := B0.notSynchronized
  subst hsz
  have hD := hD0.self (sz := s.heap.size)
  generalize hAe : va_A ([(a0, .inr (9, [g4, g5, g6, g7, g8, .ref a2, .int m_s.2.1, .int m_s.2.2.1, .int m_s.2.2.2.1, .int m_s.2.2.2.2.1, .int m_s.2.2.2.2.2.1, .int m_s.2.2.2.2.2.2.1, .int m_s.2.2.2.2.2.2.2.1, .int m_s.2.2.2.2.2.2.2.2.1, .long m_s.2.2.2.2.2.2.2.2.2, g9, g10, g11, g12, g13, g14, g15, g16, g17, g18, g19, g20, g21, g22, g23])), (a2, .inl (cB24, 900, .inl m_s.1))]) s.heap.size = A at hD ⊢
  have hA : ∀ q : Nat, s.heap.size ≤ q → A q := fun q h => by rw [← hAe]; exact Or.inr h
  have hS : va_S A s.heap s.heap [] := va_S.rf
  have hP : va_P (dC, dI) vwCl ([(a0, .inr (9, [g4, g5, g6, g7, g8, .ref a2, .int m_s.2.1, .int m_s.2.2.1, .int m_s.2.2.2.1, .int m_s.2.2.2.2.1, .int m_s.2.2.2.2.2.1, .int m_s.2.2.2.2.2.2.1, .int m_s.2.2.2.2.2.2.2.1, .int m_s.2.2.2.2.2.2.2.2.1, .long m_s.2.2.2.2.2.2.2.2.2, g9, g10, g11, g12, g13, g14, g15, g16, g17, g18, g19, g20, g21, g22, g23])), (a2, .inl (cB24, 900, .inl m_s.1))]) s.heap := hP
  have hl := lv_entry ([.ref a0, .int k1]) (n := 2) (Nat.le_of_ble_eq_true rfl)
  rw [lg_entry_eq]
  generalize (lg_sl ([.ref a0, .int k1]) ++ List.replicate (2 - (lg_sl ([.ref a0, .int k1])).length) Slot.unset).toArray = ls at hl ⊢
  have hl : lv_has ls 2 [(0, .ref a0), (1, .int k1)] := hl
  refine W_q (fun QQ hQQ => ?_)
  rw [f_X12_byteAt] at h
  refine lv_iload_n hx hb dX12_byteAt_0 rfl (lv_at hl 1 rfl) ?_
  refine lv_aload_n hx hb dX12_byteAt_1 rfl (lv_at hl 0 rfl) ?_
  refine va_get (D := (dC, dI)) (ci := 9) (v := .int m_s.2.2.1) (C := RX12) (T := TX12) (N := 30) hx hb hts ifX12_byteAt_X12 hown hK hP 0 rfl rfl 7 (by decide) (hts (.fieldLink RX12 53 "HookPierModel" "size" "I") (List.mem_of_getElem? (i := 1) rfl)) (fun _ h9 => h9) rfl dX12_byteAt_2 ?_
  refine lv_icmp_ge (tgt := 21) hx hb dX12_byteAt_5 (by decide) (fun c5 => ?_) (fun c5 => ?_)
  · have h := (if_pos c5).symm.trans h
    refine lv_iconst (v := (-1)) hx hb dX12_byteAt_21 (by decide) ?_
    obtain rfl := Option.some.inj h
    have hP9 := hP.sub (ws' := ([(a0, .inr (9, [g4, g5, g6, g7, g8, .ref a2, .int m_s.2.1, .int m_s.2.2.1, .int m_s.2.2.2.1, .int m_s.2.2.2.2.1, .int m_s.2.2.2.2.2.1, .int m_s.2.2.2.2.2.2.1, .int m_s.2.2.2.2.2.2.2.1, .int m_s.2.2.2.2.2.2.2.2.1, .long m_s.2.2.2.2.2.2.2.2.2, g9, g10, g11, g12, g13, g14, g15, g16, g17, g18, g19, g20, g21, g22, g23])), (a2, .inl (cB24, 900, .inl m_s.1))])) [0, 1] rfl
    have hD9 := hD.sub (ws' := ([(a0, .inr (9, [g4, g5, g6, g7, g8, .ref a2, .int m_s.2.1, .int m_s.2.2.1, .int m_s.2.2.2.1, .int m_s.2.2.2.2.1, .int m_s.2.2.2.2.2.1, .int m_s.2.2.2.2.2.2.1, .int m_s.2.2.2.2.2.2.2.1, .int m_s.2.2.2.2.2.2.2.2.1, .long m_s.2.2.2.2.2.2.2.2.2, g9, g10, g11, g12, g13, g14, g15, g16, g17, g18, g19, g20, g21, g22, g23])), (a2, .inl (cB24, 900, .inl m_s.1))])) [0, 1] (by decide) rfl
    have hK9 := hK.sub (tys' := []) [] rfl
    rw [hQQ]
    exact W.iret (v := (-1 : Int32)) hx hb hr (fun t ht hW => ⟨⟨(-1 : Int32), (), rfl, rfl, by rw [ht]; exact hP9, va_K.moved hW.alike hK9, hD9⟩, hS.F ht⟩) hS.2.2 dX12_byteAt_22
  · have h := (if_neg c5).symm.trans h
    refine lv_aload_n hx hb dX12_byteAt_8 rfl (lv_at hl 0 rfl) ?_
    refine va_get (D := (dC, dI)) (ci := 9) (v := .ref a2) (C := RX12) (T := TX12) (N := 30) hx hb hts ifX12_byteAt_X12 hown hK hP 0 rfl rfl 5 (by decide) (hts (.fieldLink RX12 13 "HookPierModel" "tape" "[B") (List.mem_of_getElem? (i := 2) rfl)) (fun _ h9 => h9) rfl dX12_byteAt_9 ?_
    refine lv_iload_n hx hb dX12_byteAt_12 rfl (lv_at hl 1 rfl) ?_
    obtain ⟨hg13, h⟩ := gA_of h
    refine va_bald hx hb hK hP 1 0 rfl rfl hg13 dX12_byteAt_13 ?_
    refine lv_sipush (v := 255) hx hb dX12_byteAt_14 (by decide) ?_
    refine lv_iand hx hb dX12_byteAt_17 ?_
    refine lv_goto (tgt := 22) hx hb dX12_byteAt_18 (by decide) ?_
    obtain rfl := Option.some.inj h
    have hP9 := hP.sub (ws' := ([(a0, .inr (9, [g4, g5, g6, g7, g8, .ref a2, .int m_s.2.1, .int m_s.2.2.1, .int m_s.2.2.2.1, .int m_s.2.2.2.2.1, .int m_s.2.2.2.2.2.1, .int m_s.2.2.2.2.2.2.1, .int m_s.2.2.2.2.2.2.2.1, .int m_s.2.2.2.2.2.2.2.2.1, .long m_s.2.2.2.2.2.2.2.2.2, g9, g10, g11, g12, g13, g14, g15, g16, g17, g18, g19, g20, g21, g22, g23])), (a2, .inl (cB24, 900, .inl m_s.1))])) [0, 1] rfl
    have hD9 := hD.sub (ws' := ([(a0, .inr (9, [g4, g5, g6, g7, g8, .ref a2, .int m_s.2.1, .int m_s.2.2.1, .int m_s.2.2.2.1, .int m_s.2.2.2.2.1, .int m_s.2.2.2.2.2.1, .int m_s.2.2.2.2.2.2.1, .int m_s.2.2.2.2.2.2.2.1, .int m_s.2.2.2.2.2.2.2.2.1, .long m_s.2.2.2.2.2.2.2.2.2, g9, g10, g11, g12, g13, g14, g15, g16, g17, g18, g19, g20, g21, g22, g23])), (a2, .inl (cB24, 900, .inl m_s.1))])) [0, 1] (by decide) rfl
    have hK9 := hK.sub (tys' := []) [] rfl
    rw [hQQ]
    exact W.iret (v := ((m_s.1 (k1).toNatClampNeg) &&& (255 : Int32))) hx hb hr (fun t ht hW => ⟨⟨((m_s.1 (k1).toNatClampNeg) &&& (255 : Int32)), (), rfl, rfl, by rw [ht]; exact hP9, va_K.moved hW.alike hK9, hD9⟩, hS.F ht⟩) hS.2.2 dX12_byteAt_22
theorem dX12_packed_0 : decode cX12_packed 0 = .ok (.lconst 0, 1) := by decide +kernel
theorem dX12_packed_1 : decode cX12_packed 1 = .ok (.lstore_n 1, 1) := by decide +kernel
theorem dX12_packed_12 : decode cX12_packed 12 = .ok (.ldc2_w 62, 3) := by decide +kernel
theorem dX12_packed_15 : decode cX12_packed 15 = .ok (.lload_n 1, 1) := by decide +kernel
theorem dX12_packed_16 : decode cX12_packed 16 = .ok (.lmul, 1) := by decide +kernel
theorem dX12_packed_17 : decode cX12_packed 17 = .ok (.aload_n 0, 1) := by decide +kernel
theorem dX12_packed_18 : decode cX12_packed 18 = .ok (.iload_n 3, 1) := by decide +kernel
theorem dX12_packed_19 : decode cX12_packed 19 = .ok (.invokevirtual 64, 3) := by decide +kernel
theorem dX12_packed_2 : decode cX12_packed 2 = .ok (.iconst 0, 1) := by decide +kernel
theorem dX12_packed_22 : decode cX12_packed 22 = .ok (.bipush 97, 2) := by decide +kernel
theorem dX12_packed_24 : decode cX12_packed 24 = .ok (.isub, 1) := by decide +kernel
theorem dX12_packed_25 : decode cX12_packed 25 = .ok (.iconst 1, 1) := by decide +kernel
theorem dX12_packed_26 : decode cX12_packed 26 = .ok (.iadd, 1) := by decide +kernel
theorem dX12_packed_27 : decode cX12_packed 27 = .ok (.i2l, 1) := by decide +kernel
theorem dX12_packed_28 : decode cX12_packed 28 = .ok (.ladd, 1) := by decide +kernel
theorem dX12_packed_29 : decode cX12_packed 29 = .ok (.lstore_n 1, 1) := by decide +kernel
theorem dX12_packed_3 : decode cX12_packed 3 = .ok (.istore_n 3, 1) := by decide +kernel
theorem dX12_packed_30 : decode cX12_packed 30 = .ok (.iinc 3 1, 3) := by decide +kernel
theorem dX12_packed_33 : decode cX12_packed 33 = .ok (.goto (-29), 3) := by decide +kernel
theorem dX12_packed_36 : decode cX12_packed 36 = .ok (.lload_n 1, 1) := by decide +kernel
theorem dX12_packed_37 : decode cX12_packed 37 = .ok (.lreturn, 1) := by decide +kernel
theorem dX12_packed_4 : decode cX12_packed 4 = .ok (.iload_n 3, 1) := by decide +kernel
theorem dX12_packed_5 : decode cX12_packed 5 = .ok (.aload_n 0, 1) := by decide +kernel
theorem dX12_packed_6 : decode cX12_packed 6 = .ok (.invokevirtual 56, 3) := by decide +kernel
theorem dX12_packed_9 : decode cX12_packed 9 = .ok (.if_icmp .ge 27, 3) := by decide +kernel
def vfX12_packed : List Cond := List.cons (.code yX12_packed cX12_packed 4 (some .long)) (apW [.methodLink RX12 56 yJ0_length_8abf5, .instanceMethod yJ0_length_8abf5, .selects RJ0 yJ0_length_8abf5 yJ0_length_8abf5, .initialized RJ0, .constantLong RX12 62 (32), .methodLink RX12 64 yJ0_charAt_5068e, .instanceMethod yJ0_charAt_5068e, .selects RJ0 yJ0_charAt_5068e yJ0_charAt_5068e] (apW vfJ0_length (vfJ0_charAt)))
theorem qfX12_packed : Good vfX12_packed := gd_cons (by decide +kernel) (gd_app (gd_dec (by decide +kernel) : Good [.methodLink RX12 56 yJ0_length_8abf5, .instanceMethod yJ0_length_8abf5, .selects RJ0 yJ0_length_8abf5 yJ0_length_8abf5, .initialized RJ0, .constantLong RX12 62 (32), .methodLink RX12 64 yJ0_charAt_5068e, .instanceMethod yJ0_charAt_5068e, .selects RJ0 yJ0_charAt_5068e yJ0_charAt_5068e]) (gd_app qfJ0_length qfJ0_charAt))
theorem gfX12_packed_0 : GoodIn vfX12_packed (wsV RX12 56 RJ0 yJ0_length_8abf5 vfJ0_length) := goodIn_app (goodIn_r [.methodLink RX12 56 yJ0_length_8abf5, .instanceMethod yJ0_length_8abf5, .selects RJ0 yJ0_length_8abf5 yJ0_length_8abf5, .initialized RJ0] [1, 2, 3, 4] rfl (by decide +kernel)) (goodIn_m (fun _ h => (List.mem_cons_of_mem _ (List.mem_append_right _ (List.mem_append_left _ h)))) qfJ0_length)
theorem gfX12_packed_1 : GoodIn vfX12_packed (wsV RX12 64 RJ0 yJ0_charAt_5068e vfJ0_charAt) := goodIn_app (goodIn_r [.methodLink RX12 64 yJ0_charAt_5068e, .instanceMethod yJ0_charAt_5068e, .selects RJ0 yJ0_charAt_5068e yJ0_charAt_5068e, .initialized RJ0] [6, 7, 8, 4] rfl (by decide +kernel)) (goodIn_m (fun _ h => (List.mem_cons_of_mem _ (List.mem_append_right _ (List.mem_append_right _ h)))) qfJ0_charAt)
set_option maxHeartbeats 2000000 in
set_option maxRecDepth 100000 in
theorem kfX12_packed (l : Launch) (dC : Nat → ClassId) (dI : Nat → Nat → Nat) (a0 : Nat) (w0 : List Int32) (sz : Nat) (B : Nat) (out : Int64) (h : f_X12_packed w0 = some out) : Met l yX12_packed vfX12_packed ({ frames := 4, cells := 0, slots := 0, locals := 85 }) (PF (dC, dI) B [.ref a0] sz [] ([]) [(a0, w0)]) (va_Ql (S := Unit) (fun (r : Int64) _ => r = out) (fun _ t => BC (dC, dI) (va_A [] sz) [] [] t) (va_A [] sz)) 0 0 (va_A [] sz) := by
  refine Met.ofW (cc := cX12_packed) (maxL := 4) (ret := (some .long)) (by decide) rfl ?_
  intro p e s m args below meth c s₁ B0 hml hv
  obtain ⟨rfl, hsz, hP, hK, hD0, hN, hBs, hE, hX⟩ := hv
  have hBA := PF_reg hD0 hBs
  have xs0 : S1 B a0 w0 s := hX (a0, w0) (List.mem_of_getElem? (i := 0) rfl)
  have hx := B0.exec
  have hb := B0.bytes
  have hr := B0.returns
  have hts := atoms_spec (ws := vfX12_packed) B0.pre
  have hown : s.vm.findClass RX12 = some m.cls := findClass_of_methodNamed B0.named
  have hlocks := B0.notSynchronized
  subst hsz
  have hD := hD0.self (sz := s.heap.size)
  generalize hAe : va_A [] s.heap.size = A at hD hBA ⊢
  have hA : ∀ q : Nat, s.heap.size ≤ q → A q := fun q h => by rw [← hAe]; exact Or.inr h
  have hS : va_S A s.heap s.heap [] := va_S.rf
  have hP : va_P (dC, dI) vwCl [] s.heap := hP
  have hl := lv_entry ([.ref a0]) (n := 4) (Nat.le_of_ble_eq_true rfl)
  rw [lg_entry_eq]
  generalize (lg_sl ([.ref a0]) ++ List.replicate (4 - (lg_sl ([.ref a0])).length) Slot.unset).toArray = ls at hl ⊢
  have hl : lv_has ls 4 [(0, .ref a0)] := hl
  have hB : RB B s A := ⟨hBA, hBs⟩
  refine W_q (fun QQ hQQ => ?_)
  rw [f_X12_packed] at h
  refine lv_lconst (v := 0) hx hb dX12_packed_0 (by decide) ?_
  refine lv_lstore_n (lv' := [(1, .long 0), (0, .ref a0)]) hx hb dX12_packed_1 rfl hl (by decide) rfl (fun ls hl => ?_)
  refine lv_iconst (v := 0) hx hb dX12_packed_2 (by decide) ?_
  refine lv_istore_n (lv' := [(3, .int 0), (1, .long 0), (0, .ref a0)]) hx hb dX12_packed_3 rfl hl (by decide) rfl (fun ls hl => ?_)
  have L4 : ∀ (n4 : Nat) (v4_l3 : Int32) (v4_l1 : Int64) (H : Heap) (locs : List Loc) (ls : Array Slot), f_X12_packed_L4 w0 n4 v4_l3 v4_l1 = some out → va_P (dC, dI) vwCl [] H → va_D A [] → va_S A s.heap H locs → lv_has ls 4 [(3, .int v4_l3), (1, .long v4_l1), (0, .ref a0)] → W p l e (headSpec vfX12_packed { frames := 4, cells := 0, slots := 0, locals := 85 }).room s m ([.ref a0]).toArray below meth c H locs 0 0 QQ (F0 m 4 ls []) := by
    intro n4
    induction n4 with
    | zero =>
      intro v4_l3 v4_l1 H locs ls h  _ _ _ _
      rw [f_X12_packed_L4] at h
      cases h
    | succ n4 ih4 =>
      intro v4_l3 v4_l1 H locs ls h  hP hD hS hl
      rw [f_X12_packed_L4] at h
      refine lv_iload_n hx hb dX12_packed_4 rfl (lv_at hl 0 rfl) ?_
      refine lv_aload_n hx hb dX12_packed_5 rfl (lv_at hl 2 rfl) ?_
      refine cl_i (D := (dC, dI)) (w1 := fun _ => []) (tys1 := fun _ => []) (wc := []) (wr := []) (va_runV (As := []) (rest := [.int v4_l3]) ⟨hx, hb, hml, hown, hts⟩ (kfJ0_length l dC dI a0 w0 H.size B) (cwV 0 hts gfX12_packed_0 rfl rfl rfl (by decide +kernel) ⟨(Nat.le_of_ble_eq_true rfl), (Nat.le_of_ble_eq_true rfl)⟩) (PVS hK hN hS hB hE xs0) rfl rfl hl.1 rfl (lv_room (Nat.le_of_ble_eq_true rfl)) dX12_packed_6 ⟨(Nat.le_of_ble_eq_true rfl), (Nat.le_of_ble_eq_true rfl)⟩) hP hD hK hS hA [] [] rfl rfl (by decide) (by decide) (fun r6 _ H locs hw hP hD _ hS => ?_)
      obtain rfl := hw
      have hP : va_P (dC, dI) vwCl [] H := hP
      have hD : va_D A [] := hD
      refine lv_icmp_ge (tgt := 36) hx hb dX12_packed_9 (by decide) (fun c9 => ?_) (fun c9 => ?_)
      · have h := (if_pos c9).symm.trans h
        refine lv_lload_n hx hb dX12_packed_36 rfl (lv_at hl 1 rfl) ?_
        obtain rfl := Option.some.inj h
        have hP9 := hP.sub (ws' := []) [] rfl
        have hD9 := hD.sub (ws' := []) [] (by decide) rfl
        have hK9 := hK.sub (tys' := []) [] rfl
        rw [hQQ]
        exact W.lret (v := v4_l1) hx hb hr (fun t ht hW => ⟨⟨v4_l1, (), rfl, rfl, by rw [ht]; exact hP9, va_K.moved hW.alike hK9, hD9⟩, hS.F ht⟩) hS.2.2 dX12_packed_37
      · have h := (if_neg c9).symm.trans h
        refine lv_ldc2 hx hb hown (hts (.constantLong RX12 62 (32)) (List.mem_of_getElem? (i := 5) rfl)) dX12_packed_12 ?_
        refine lv_lload_n hx hb dX12_packed_15 rfl (lv_at hl 1 rfl) ?_
        refine lv_lmul hx hb dX12_packed_16 ?_
        refine lv_aload_n hx hb dX12_packed_17 rfl (lv_at hl 2 rfl) ?_
        refine lv_iload_n hx hb dX12_packed_18 rfl (lv_at hl 0 rfl) ?_
        obtain ⟨hg19, h⟩ := gA_of h
        refine cl_i (D := (dC, dI)) (w1 := fun _ => []) (tys1 := fun _ => []) (wc := []) (wr := []) (va_runV (As := [.int v4_l3]) (rest := [.long ((32 : Int64) * v4_l1)]) ⟨hx, hb, hml, hown, hts⟩ (kfJ0_charAt l dC dI a0 w0 v4_l3 H.size B hg19) (cwV 1 hts gfX12_packed_1 rfl rfl rfl (by decide +kernel) ⟨(Nat.le_of_ble_eq_true rfl), (Nat.le_of_ble_eq_true rfl)⟩) (PVS hK hN hS hB hE xs0) rfl rfl hl.1 rfl (lv_room (Nat.le_of_ble_eq_true rfl)) dX12_packed_19 ⟨(Nat.le_of_ble_eq_true rfl), (Nat.le_of_ble_eq_true rfl)⟩) hP hD hK hS hA [] [] rfl rfl (by decide) (by decide) (fun r19 _ H locs hw hP hD _ hS => ?_)
        obtain rfl := hw
        have hP : va_P (dC, dI) vwCl [] H := hP
        have hD : va_D A [] := hD
        refine lv_bipush (v := 97) hx hb dX12_packed_22 (by decide) ?_
        refine lv_isub hx hb dX12_packed_24 ?_
        refine lv_iconst (v := 1) hx hb dX12_packed_25 (by decide) ?_
        refine lv_iadd hx hb dX12_packed_26 ?_
        refine lv_i2l hx hb dX12_packed_27 rfl ?_
        refine lv_ladd hx hb dX12_packed_28 ?_
        refine lv_topl (fun z28 ez28 => ?_)
        have h := nm_of h z28 ez28
        refine lv_lstore_n (lv' := [(1, .long z28), (3, .int v4_l3), (0, .ref a0)]) hx hb dX12_packed_29 rfl hl (by decide) rfl (fun ls hl => ?_)
        refine lv_iinc (v := (v4_l3 + (1 : Int32))) (lv' := [(3, .int (v4_l3 + (1 : Int32))), (1, .long z28), (0, .ref a0)]) hx hb dX12_packed_30 hl (k := 1) rfl rfl (by decide) rfl (fun ls hl => ?_)
        refine lv_goto (tgt := 4) hx hb dX12_packed_33 (by decide) ?_
        exact ih4 (v4_l3 + (1 : Int32)) z28 H _ ls h  hP hD hS (lv_sub hl [0, 1, 2] rfl)
  exact L4 FU (0 : Int32) (0 : Int64) s.heap _ ls h  hP hD hS (lv_sub hl [0, 1, 2] rfl)
theorem dX12_goesOn_0 : decode cX12_goesOn 0 = .ok (.aload_n 0, 1) := by decide +kernel
theorem dX12_goesOn_1 : decode cX12_goesOn 1 = .ok (.getfield 68, 3) := by decide +kernel
theorem dX12_goesOn_10 : decode cX12_goesOn 10 = .ok (.aload_n 0, 1) := by decide +kernel
theorem dX12_goesOn_101 : decode cX12_goesOn 101 = .ok (.if_icmp .ge 30, 3) := by decide +kernel
theorem dX12_goesOn_104 : decode cX12_goesOn 104 = .ok (.aload_n 0, 1) := by decide +kernel
theorem dX12_goesOn_105 : decode cX12_goesOn 105 = .ok (.ldc2_w 62, 3) := by decide +kernel
theorem dX12_goesOn_108 : decode cX12_goesOn 108 = .ok (.aload_n 0, 1) := by decide +kernel
theorem dX12_goesOn_109 : decode cX12_goesOn 109 = .ok (.getfield 84, 3) := by decide +kernel
theorem dX12_goesOn_11 : decode cX12_goesOn 11 = .ok (.getfield 71, 3) := by decide +kernel
theorem dX12_goesOn_112 : decode cX12_goesOn 112 = .ok (.lmul, 1) := by decide +kernel
theorem dX12_goesOn_113 : decode cX12_goesOn 113 = .ok (.aload_n 0, 1) := by decide +kernel
theorem dX12_goesOn_114 : decode cX12_goesOn 114 = .ok (.aload_n 0, 1) := by decide +kernel
theorem dX12_goesOn_115 : decode cX12_goesOn 115 = .ok (.getfield 71, 3) := by decide +kernel
theorem dX12_goesOn_118 : decode cX12_goesOn 118 = .ok (.invokevirtual 74, 3) := by decide +kernel
theorem dX12_goesOn_121 : decode cX12_goesOn 121 = .ok (.bipush 97, 2) := by decide +kernel
theorem dX12_goesOn_123 : decode cX12_goesOn 123 = .ok (.isub, 1) := by decide +kernel
theorem dX12_goesOn_124 : decode cX12_goesOn 124 = .ok (.iconst 1, 1) := by decide +kernel
theorem dX12_goesOn_125 : decode cX12_goesOn 125 = .ok (.iadd, 1) := by decide +kernel
theorem dX12_goesOn_126 : decode cX12_goesOn 126 = .ok (.i2l, 1) := by decide +kernel
theorem dX12_goesOn_127 : decode cX12_goesOn 127 = .ok (.ladd, 1) := by decide +kernel
theorem dX12_goesOn_128 : decode cX12_goesOn 128 = .ok (.putfield 84, 3) := by decide +kernel
theorem dX12_goesOn_131 : decode cX12_goesOn 131 = .ok (.iinc 2 1, 3) := by decide +kernel
theorem dX12_goesOn_134 : decode cX12_goesOn 134 = .ok (.aload_n 0, 1) := by decide +kernel
theorem dX12_goesOn_135 : decode cX12_goesOn 135 = .ok (.dup, 1) := by decide +kernel
theorem dX12_goesOn_136 : decode cX12_goesOn 136 = .ok (.getfield 71, 3) := by decide +kernel
theorem dX12_goesOn_139 : decode cX12_goesOn 139 = .ok (.iconst 1, 1) := by decide +kernel
theorem dX12_goesOn_14 : decode cX12_goesOn 14 = .ok (.invokevirtual 74, 3) := by decide +kernel
theorem dX12_goesOn_140 : decode cX12_goesOn 140 = .ok (.iadd, 1) := by decide +kernel
theorem dX12_goesOn_141 : decode cX12_goesOn 141 = .ok (.putfield 71, 3) := by decide +kernel
theorem dX12_goesOn_144 : decode cX12_goesOn 144 = .ok (.goto (-60), 3) := by decide +kernel
theorem dX12_goesOn_147 : decode cX12_goesOn 147 = .ok (.iload_n 2, 1) := by decide +kernel
theorem dX12_goesOn_148 : decode cX12_goesOn 148 = .ok (.bipush 8, 2) := by decide +kernel
theorem dX12_goesOn_150 : decode cX12_goesOn 150 = .ok (.if_icmp .gt 115, 3) := by decide +kernel
theorem dX12_goesOn_153 : decode cX12_goesOn 153 = .ok (.aload_n 0, 1) := by decide +kernel
theorem dX12_goesOn_154 : decode cX12_goesOn 154 = .ok (.iconst 2, 1) := by decide +kernel
theorem dX12_goesOn_155 : decode cX12_goesOn 155 = .ok (.putfield 68, 3) := by decide +kernel
theorem dX12_goesOn_158 : decode cX12_goesOn 158 = .ok (.goto 107, 3) := by decide +kernel
theorem dX12_goesOn_161 : decode cX12_goesOn 161 = .ok (.iload_n 1, 1) := by decide +kernel
theorem dX12_goesOn_162 : decode cX12_goesOn 162 = .ok (.invokestatic 88, 3) := by decide +kernel
theorem dX12_goesOn_165 : decode cX12_goesOn 165 = .ok (.ifCond .eq 79, 3) := by decide +kernel
theorem dX12_goesOn_168 : decode cX12_goesOn 168 = .ok (.aload_n 0, 1) := by decide +kernel
theorem dX12_goesOn_169 : decode cX12_goesOn 169 = .ok (.iconst 0, 1) := by decide +kernel
theorem dX12_goesOn_17 : decode cX12_goesOn 17 = .ok (.bipush 32, 2) := by decide +kernel
theorem dX12_goesOn_170 : decode cX12_goesOn 170 = .ok (.putfield 91, 3) := by decide +kernel
theorem dX12_goesOn_173 : decode cX12_goesOn 173 = .ok (.aload_n 0, 1) := by decide +kernel
theorem dX12_goesOn_174 : decode cX12_goesOn 174 = .ok (.aload_n 0, 1) := by decide +kernel
theorem dX12_goesOn_175 : decode cX12_goesOn 175 = .ok (.getfield 71, 3) := by decide +kernel
theorem dX12_goesOn_178 : decode cX12_goesOn 178 = .ok (.invokevirtual 74, 3) := by decide +kernel
theorem dX12_goesOn_181 : decode cX12_goesOn 181 = .ok (.invokestatic 88, 3) := by decide +kernel
theorem dX12_goesOn_184 : decode cX12_goesOn 184 = .ok (.ifCond .eq 47, 3) := by decide +kernel
theorem dX12_goesOn_187 : decode cX12_goesOn 187 = .ok (.iload_n 2, 1) := by decide +kernel
theorem dX12_goesOn_188 : decode cX12_goesOn 188 = .ok (.iconst 2, 1) := by decide +kernel
theorem dX12_goesOn_189 : decode cX12_goesOn 189 = .ok (.if_icmp .ge 26, 3) := by decide +kernel
theorem dX12_goesOn_19 : decode cX12_goesOn 19 = .ok (.if_icmp .ne 16, 3) := by decide +kernel
theorem dX12_goesOn_192 : decode cX12_goesOn 192 = .ok (.aload_n 0, 1) := by decide +kernel
theorem dX12_goesOn_193 : decode cX12_goesOn 193 = .ok (.bipush 10, 2) := by decide +kernel
theorem dX12_goesOn_195 : decode cX12_goesOn 195 = .ok (.aload_n 0, 1) := by decide +kernel
theorem dX12_goesOn_196 : decode cX12_goesOn 196 = .ok (.getfield 91, 3) := by decide +kernel
theorem dX12_goesOn_199 : decode cX12_goesOn 199 = .ok (.imul, 1) := by decide +kernel
theorem dX12_goesOn_200 : decode cX12_goesOn 200 = .ok (.aload_n 0, 1) := by decide +kernel
theorem dX12_goesOn_201 : decode cX12_goesOn 201 = .ok (.aload_n 0, 1) := by decide +kernel
theorem dX12_goesOn_202 : decode cX12_goesOn 202 = .ok (.getfield 71, 3) := by decide +kernel
theorem dX12_goesOn_205 : decode cX12_goesOn 205 = .ok (.invokevirtual 74, 3) := by decide +kernel
theorem dX12_goesOn_208 : decode cX12_goesOn 208 = .ok (.iadd, 1) := by decide +kernel
theorem dX12_goesOn_209 : decode cX12_goesOn 209 = .ok (.bipush 48, 2) := by decide +kernel
theorem dX12_goesOn_211 : decode cX12_goesOn 211 = .ok (.isub, 1) := by decide +kernel
theorem dX12_goesOn_212 : decode cX12_goesOn 212 = .ok (.putfield 91, 3) := by decide +kernel
theorem dX12_goesOn_215 : decode cX12_goesOn 215 = .ok (.iinc 2 1, 3) := by decide +kernel
theorem dX12_goesOn_218 : decode cX12_goesOn 218 = .ok (.aload_n 0, 1) := by decide +kernel
theorem dX12_goesOn_219 : decode cX12_goesOn 219 = .ok (.dup, 1) := by decide +kernel
theorem dX12_goesOn_22 : decode cX12_goesOn 22 = .ok (.aload_n 0, 1) := by decide +kernel
theorem dX12_goesOn_220 : decode cX12_goesOn 220 = .ok (.getfield 71, 3) := by decide +kernel
theorem dX12_goesOn_223 : decode cX12_goesOn 223 = .ok (.iconst 1, 1) := by decide +kernel
theorem dX12_goesOn_224 : decode cX12_goesOn 224 = .ok (.iadd, 1) := by decide +kernel
theorem dX12_goesOn_225 : decode cX12_goesOn 225 = .ok (.putfield 71, 3) := by decide +kernel
theorem dX12_goesOn_228 : decode cX12_goesOn 228 = .ok (.goto (-55), 3) := by decide +kernel
theorem dX12_goesOn_23 : decode cX12_goesOn 23 = .ok (.dup, 1) := by decide +kernel
theorem dX12_goesOn_231 : decode cX12_goesOn 231 = .ok (.iload_n 2, 1) := by decide +kernel
theorem dX12_goesOn_232 : decode cX12_goesOn 232 = .ok (.iconst 2, 1) := by decide +kernel
theorem dX12_goesOn_233 : decode cX12_goesOn 233 = .ok (.if_icmp .gt 32, 3) := by decide +kernel
theorem dX12_goesOn_236 : decode cX12_goesOn 236 = .ok (.aload_n 0, 1) := by decide +kernel
theorem dX12_goesOn_237 : decode cX12_goesOn 237 = .ok (.iconst 3, 1) := by decide +kernel
theorem dX12_goesOn_238 : decode cX12_goesOn 238 = .ok (.putfield 68, 3) := by decide +kernel
theorem dX12_goesOn_24 : decode cX12_goesOn 24 = .ok (.getfield 71, 3) := by decide +kernel
theorem dX12_goesOn_241 : decode cX12_goesOn 241 = .ok (.goto 24, 3) := by decide +kernel
theorem dX12_goesOn_244 : decode cX12_goesOn 244 = .ok (.iload_n 1, 1) := by decide +kernel
theorem dX12_goesOn_245 : decode cX12_goesOn 245 = .ok (.bipush 59, 2) := by decide +kernel
theorem dX12_goesOn_247 : decode cX12_goesOn 247 = .ok (.if_icmp .ne 18, 3) := by decide +kernel
theorem dX12_goesOn_250 : decode cX12_goesOn 250 = .ok (.aload_n 0, 1) := by decide +kernel
theorem dX12_goesOn_251 : decode cX12_goesOn 251 = .ok (.iconst 4, 1) := by decide +kernel
theorem dX12_goesOn_252 : decode cX12_goesOn 252 = .ok (.putfield 68, 3) := by decide +kernel
theorem dX12_goesOn_255 : decode cX12_goesOn 255 = .ok (.aload_n 0, 1) := by decide +kernel
theorem dX12_goesOn_256 : decode cX12_goesOn 256 = .ok (.dup, 1) := by decide +kernel
theorem dX12_goesOn_257 : decode cX12_goesOn 257 = .ok (.getfield 71, 3) := by decide +kernel
theorem dX12_goesOn_260 : decode cX12_goesOn 260 = .ok (.iconst 1, 1) := by decide +kernel
theorem dX12_goesOn_261 : decode cX12_goesOn 261 = .ok (.iadd, 1) := by decide +kernel
theorem dX12_goesOn_262 : decode cX12_goesOn 262 = .ok (.putfield 71, 3) := by decide +kernel
theorem dX12_goesOn_265 : decode cX12_goesOn 265 = .ok (.return_, 1) := by decide +kernel
theorem dX12_goesOn_27 : decode cX12_goesOn 27 = .ok (.iconst 1, 1) := by decide +kernel
theorem dX12_goesOn_28 : decode cX12_goesOn 28 = .ok (.iadd, 1) := by decide +kernel
theorem dX12_goesOn_29 : decode cX12_goesOn 29 = .ok (.putfield 71, 3) := by decide +kernel
theorem dX12_goesOn_32 : decode cX12_goesOn 32 = .ok (.goto (-23), 3) := by decide +kernel
theorem dX12_goesOn_35 : decode cX12_goesOn 35 = .ok (.aload_n 0, 1) := by decide +kernel
theorem dX12_goesOn_36 : decode cX12_goesOn 36 = .ok (.aload_n 0, 1) := by decide +kernel
theorem dX12_goesOn_37 : decode cX12_goesOn 37 = .ok (.getfield 71, 3) := by decide +kernel
theorem dX12_goesOn_4 : decode cX12_goesOn 4 = .ok (.iconst 5, 1) := by decide +kernel
theorem dX12_goesOn_40 : decode cX12_goesOn 40 = .ok (.putfield 77, 3) := by decide +kernel
theorem dX12_goesOn_43 : decode cX12_goesOn 43 = .ok (.aload_n 0, 1) := by decide +kernel
theorem dX12_goesOn_44 : decode cX12_goesOn 44 = .ok (.iconst 0, 1) := by decide +kernel
theorem dX12_goesOn_45 : decode cX12_goesOn 45 = .ok (.putfield 68, 3) := by decide +kernel
theorem dX12_goesOn_48 : decode cX12_goesOn 48 = .ok (.aload_n 0, 1) := by decide +kernel
theorem dX12_goesOn_49 : decode cX12_goesOn 49 = .ok (.aload_n 0, 1) := by decide +kernel
theorem dX12_goesOn_5 : decode cX12_goesOn 5 = .ok (.if_icmp .ne 4, 3) := by decide +kernel
theorem dX12_goesOn_50 : decode cX12_goesOn 50 = .ok (.getfield 71, 3) := by decide +kernel
theorem dX12_goesOn_53 : decode cX12_goesOn 53 = .ok (.invokevirtual 74, 3) := by decide +kernel
theorem dX12_goesOn_56 : decode cX12_goesOn 56 = .ok (.istore_n 1, 1) := by decide +kernel
theorem dX12_goesOn_57 : decode cX12_goesOn 57 = .ok (.iconst 0, 1) := by decide +kernel
theorem dX12_goesOn_58 : decode cX12_goesOn 58 = .ok (.istore_n 2, 1) := by decide +kernel
theorem dX12_goesOn_59 : decode cX12_goesOn 59 = .ok (.iload_n 1, 1) := by decide +kernel
theorem dX12_goesOn_60 : decode cX12_goesOn 60 = .ok (.iconst (-1), 1) := by decide +kernel
theorem dX12_goesOn_61 : decode cX12_goesOn 61 = .ok (.if_icmp .ne 11, 3) := by decide +kernel
theorem dX12_goesOn_64 : decode cX12_goesOn 64 = .ok (.aload_n 0, 1) := by decide +kernel
theorem dX12_goesOn_65 : decode cX12_goesOn 65 = .ok (.iconst 1, 1) := by decide +kernel
theorem dX12_goesOn_66 : decode cX12_goesOn 66 = .ok (.putfield 68, 3) := by decide +kernel
theorem dX12_goesOn_69 : decode cX12_goesOn 69 = .ok (.goto 196, 3) := by decide +kernel
theorem dX12_goesOn_72 : decode cX12_goesOn 72 = .ok (.iload_n 1, 1) := by decide +kernel
theorem dX12_goesOn_73 : decode cX12_goesOn 73 = .ok (.invokestatic 80, 3) := by decide +kernel
theorem dX12_goesOn_76 : decode cX12_goesOn 76 = .ok (.ifCond .eq 85, 3) := by decide +kernel
theorem dX12_goesOn_79 : decode cX12_goesOn 79 = .ok (.aload_n 0, 1) := by decide +kernel
theorem dX12_goesOn_8 : decode cX12_goesOn 8 = .ok (.return_, 1) := by decide +kernel
theorem dX12_goesOn_80 : decode cX12_goesOn 80 = .ok (.lconst 0, 1) := by decide +kernel
theorem dX12_goesOn_81 : decode cX12_goesOn 81 = .ok (.putfield 84, 3) := by decide +kernel
theorem dX12_goesOn_84 : decode cX12_goesOn 84 = .ok (.aload_n 0, 1) := by decide +kernel
theorem dX12_goesOn_85 : decode cX12_goesOn 85 = .ok (.aload_n 0, 1) := by decide +kernel
theorem dX12_goesOn_86 : decode cX12_goesOn 86 = .ok (.getfield 71, 3) := by decide +kernel
theorem dX12_goesOn_89 : decode cX12_goesOn 89 = .ok (.invokevirtual 74, 3) := by decide +kernel
theorem dX12_goesOn_9 : decode cX12_goesOn 9 = .ok (.aload_n 0, 1) := by decide +kernel
theorem dX12_goesOn_92 : decode cX12_goesOn 92 = .ok (.invokestatic 80, 3) := by decide +kernel
theorem dX12_goesOn_95 : decode cX12_goesOn 95 = .ok (.ifCond .eq 52, 3) := by decide +kernel
theorem dX12_goesOn_98 : decode cX12_goesOn 98 = .ok (.iload_n 2, 1) := by decide +kernel
theorem dX12_goesOn_99 : decode cX12_goesOn 99 = .ok (.bipush 8, 2) := by decide +kernel
def vfX12_goesOn : List Cond := List.cons (.code yX12_goesOn cX12_goesOn 3 none) (apW [.fieldLink RX12 68 "HookPierModel" "sort" "I", .fieldLink RX12 71 "HookPierModel" "spot" "I", .methodLink RX12 74 yX12_byteAt, .instanceMethod yX12_byteAt, .selects RX12 yX12_byteAt yX12_byteAt, .initialized RX12, .fieldLink RX12 77 "HookPierModel" "place" "I", .methodLink RX12 80 yX12_isLetter, .static yX12_isLetter, .methodLink RX12 88 yX12_isDigit, .static yX12_isDigit, .fieldLink RX12 91 "HookPierModel" "number" "I", .fieldLink RX12 84 "HookPierModel" "word" "J", .constantLong RX12 62 (32)] (apW wsX120 (apW vfX12_byteAt (apW vfX12_isLetter (vfX12_isDigit)))))
theorem ifX12_goesOn_X12 : ∀ w ∈ wsX120, w ∈ vfX12_goesOn := fun _ h => (List.mem_cons_of_mem _ (List.mem_append_right _ (List.mem_append_left _ h)))
theorem qfX12_goesOn : Good vfX12_goesOn := gd_cons (by decide +kernel) (gd_app (gd_dec (by decide +kernel) : Good [.fieldLink RX12 68 "HookPierModel" "sort" "I", .fieldLink RX12 71 "HookPierModel" "spot" "I", .methodLink RX12 74 yX12_byteAt, .instanceMethod yX12_byteAt, .selects RX12 yX12_byteAt yX12_byteAt, .initialized RX12, .fieldLink RX12 77 "HookPierModel" "place" "I", .methodLink RX12 80 yX12_isLetter, .static yX12_isLetter, .methodLink RX12 88 yX12_isDigit, .static yX12_isDigit, .fieldLink RX12 91 "HookPierModel" "number" "I", .fieldLink RX12 84 "HookPierModel" "word" "J", .constantLong RX12 62 (32)]) (gd_app qsX12 (gd_app qfX12_byteAt (gd_app qfX12_isLetter qfX12_isDigit))))
theorem gfX12_goesOn_0 : GoodIn vfX12_goesOn (wsV RX12 74 RX12 yX12_byteAt vfX12_byteAt) := goodIn_app (goodIn_r [.methodLink RX12 74 yX12_byteAt, .instanceMethod yX12_byteAt, .selects RX12 yX12_byteAt yX12_byteAt, .initialized RX12] [3, 4, 5, 6] rfl (by decide +kernel)) (goodIn_m (fun _ h => (List.mem_cons_of_mem _ (List.mem_append_right _ (List.mem_append_right _ (List.mem_append_left _ h))))) qfX12_byteAt)
theorem gfX12_goesOn_1 : GoodIn vfX12_goesOn (va_wsS RX12 80 yX12_isLetter vfX12_isLetter) := goodIn_app (goodIn_r [.methodLink RX12 80 yX12_isLetter, .static yX12_isLetter, .initialized RX12] [8, 9, 6] rfl (by decide +kernel)) (goodIn_m (fun _ h => (List.mem_cons_of_mem _ (List.mem_append_right _ (List.mem_append_right _ (List.mem_append_right _ (List.mem_append_left _ h)))))) qfX12_isLetter)
theorem gfX12_goesOn_2 : GoodIn vfX12_goesOn (va_wsS RX12 88 yX12_isDigit vfX12_isDigit) := goodIn_app (goodIn_r [.methodLink RX12 88 yX12_isDigit, .static yX12_isDigit, .initialized RX12] [10, 11, 6] rfl (by decide +kernel)) (goodIn_m (fun _ h => (List.mem_cons_of_mem _ (List.mem_append_right _ (List.mem_append_right _ (List.mem_append_right _ (List.mem_append_right _ h)))))) qfX12_isDigit)
set_option maxHeartbeats 2000000 in
set_option maxRecDepth 100000 in
theorem kfX12_goesOn (l : Launch) (dC : Nat → ClassId) (dI : Nat → Nat → Nat) (a0 : Nat) (a1 : Nat) (m_s : TX12_s) (g3 : Value) (g4 : Value) (g5 : Value) (g6 : Value) (g7 : Value) (g8 : Value) (g9 : Value) (g10 : Value) (g11 : Value) (g12 : Value) (g13 : Value) (g14 : Value) (g15 : Value) (g16 : Value) (g17 : Value) (g18 : Value) (g19 : Value) (g20 : Value) (g21 : Value) (g22 : Value) (cB23 : ClassId) (sz : Nat) (out : TX12_s) (h : f_X12_goesOn m_s = some out) : Met l yX12_goesOn vfX12_goesOn ({ frames := 1, cells := 0, slots := 0, locals := 21 }) (PC (dC, dI) [.ref a0] sz ([(a0, .inr (9, [g3, g4, g5, g6, g7, .ref a1, .int m_s.2.1, .int m_s.2.2.1, .int m_s.2.2.2.1, .int m_s.2.2.2.2.1, .int m_s.2.2.2.2.2.1, .int m_s.2.2.2.2.2.2.1, .int m_s.2.2.2.2.2.2.2.1, .int m_s.2.2.2.2.2.2.2.2.1, .long m_s.2.2.2.2.2.2.2.2.2, g8, g9, g10, g11, g12, g13, g14, g15, g16, g17, g18, g19, g20, g21, g22])), (a1, .inl (cB23, 900, .inl m_s.1))]) ((cB23, .byte) :: [])) (va_Qv (S := Unit) (fun _ => True) (fun _ t => BC (dC, dI) (va_A ([(a0, .inr (9, [g3, g4, g5, g6, g7, .ref a1, .int m_s.2.1, .int m_s.2.2.1, .int m_s.2.2.2.1, .int m_s.2.2.2.2.1, .int m_s.2.2.2.2.2.1, .int m_s.2.2.2.2.2.2.1, .int m_s.2.2.2.2.2.2.2.1, .int m_s.2.2.2.2.2.2.2.2.1, .long m_s.2.2.2.2.2.2.2.2.2, g8, g9, g10, g11, g12, g13, g14, g15, g16, g17, g18, g19, g20, g21, g22])), (a1, .inl (cB23, 900, .inl m_s.1))]) sz) ([(a0, .inr (9, [g3, g4, g5, g6, g7, .ref a1, .int out.2.1, .int out.2.2.1, .int out.2.2.2.1, .int out.2.2.2.2.1, .int out.2.2.2.2.2.1, .int out.2.2.2.2.2.2.1, .int out.2.2.2.2.2.2.2.1, .int out.2.2.2.2.2.2.2.2.1, .long out.2.2.2.2.2.2.2.2.2, g8, g9, g10, g11, g12, g13, g14, g15, g16, g17, g18, g19, g20, g21, g22])), (a1, .inl (cB23, 900, .inl out.1))]) [] t) (va_A ([(a0, .inr (9, [g3, g4, g5, g6, g7, .ref a1, .int m_s.2.1, .int m_s.2.2.1, .int m_s.2.2.2.1, .int m_s.2.2.2.2.1, .int m_s.2.2.2.2.2.1, .int m_s.2.2.2.2.2.2.1, .int m_s.2.2.2.2.2.2.2.1, .int m_s.2.2.2.2.2.2.2.2.1, .long m_s.2.2.2.2.2.2.2.2.2, g8, g9, g10, g11, g12, g13, g14, g15, g16, g17, g18, g19, g20, g21, g22])), (a1, .inl (cB23, 900, .inl m_s.1))]) sz)) 0 0 (va_A ([(a0, .inr (9, [g3, g4, g5, g6, g7, .ref a1, .int m_s.2.1, .int m_s.2.2.1, .int m_s.2.2.2.1, .int m_s.2.2.2.2.1, .int m_s.2.2.2.2.2.1, .int m_s.2.2.2.2.2.2.1, .int m_s.2.2.2.2.2.2.2.1, .int m_s.2.2.2.2.2.2.2.2.1, .long m_s.2.2.2.2.2.2.2.2.2, g8, g9, g10, g11, g12, g13, g14, g15, g16, g17, g18, g19, g20, g21, g22])), (a1, .inl (cB23, 900, .inl m_s.1))]) sz) := by
  refine Met.ofW (cc := cX12_goesOn) (maxL := 3) (ret := none) (by decide) rfl ?_
  intro p e s m args below meth c s₁ B0 hml hv
  obtain ⟨rfl, hsz, hP, hK, hD0, hN⟩ := hv
  have hx := B0.exec
  have hb := B0.bytes
  have hr := B0.returns
  have hts := atoms_spec (ws := vfX12_goesOn) B0.pre
  have hown : s.vm.findClass RX12 = some m.cls := findClass_of_methodNamed B0.named
  have hlocks := B0.notSynchronized
  subst hsz
  have hD := hD0.self (sz := s.heap.size)
  generalize hAe : va_A ([(a0, .inr (9, [g3, g4, g5, g6, g7, .ref a1, .int m_s.2.1, .int m_s.2.2.1, .int m_s.2.2.2.1, .int m_s.2.2.2.2.1, .int m_s.2.2.2.2.2.1, .int m_s.2.2.2.2.2.2.1, .int m_s.2.2.2.2.2.2.2.1, .int m_s.2.2.2.2.2.2.2.2.1, .long m_s.2.2.2.2.2.2.2.2.2, g8, g9, g10, g11, g12, g13, g14, g15, g16, g17, g18, g19, g20, g21, g22])), (a1, .inl (cB23, 900, .inl m_s.1))]) s.heap.size = A at hD ⊢
  have hA : ∀ q : Nat, s.heap.size ≤ q → A q := fun q h => by rw [← hAe]; exact Or.inr h
  have hS : va_S A s.heap s.heap [] := va_S.rf
  have hP : va_P (dC, dI) vwCl ([(a0, .inr (9, [g3, g4, g5, g6, g7, .ref a1, .int m_s.2.1, .int m_s.2.2.1, .int m_s.2.2.2.1, .int m_s.2.2.2.2.1, .int m_s.2.2.2.2.2.1, .int m_s.2.2.2.2.2.2.1, .int m_s.2.2.2.2.2.2.2.1, .int m_s.2.2.2.2.2.2.2.2.1, .long m_s.2.2.2.2.2.2.2.2.2, g8, g9, g10, g11, g12, g13, g14, g15, g16, g17, g18, g19, g20, g21, g22])), (a1, .inl (cB23, 900, .inl m_s.1))]) s.heap := hP
  have hl := lv_entry ([.ref a0]) (n := 3) (Nat.le_of_ble_eq_true rfl)
  rw [lg_entry_eq]
  generalize (lg_sl ([.ref a0]) ++ List.replicate (3 - (lg_sl ([.ref a0])).length) Slot.unset).toArray = ls at hl ⊢
  have hl : lv_has ls 3 [(0, .ref a0)] := hl
  refine W_q (fun QQ hQQ => ?_)
  rw [f_X12_goesOn] at h
  refine lv_aload_n hx hb dX12_goesOn_0 rfl (lv_at hl 0 rfl) ?_
  refine va_get (D := (dC, dI)) (ci := 9) (v := .int m_s.2.2.2.2.1) (C := RX12) (T := TX12) (N := 30) hx hb hts ifX12_goesOn_X12 hown hK hP 0 rfl rfl 9 (by decide) (hts (.fieldLink RX12 68 "HookPierModel" "sort" "I") (List.mem_of_getElem? (i := 1) rfl)) (fun _ h9 => h9) rfl dX12_goesOn_1 ?_
  refine lv_iconst (v := 5) hx hb dX12_goesOn_4 (by decide) ?_
  have L9 : ∀ (n9 : Nat) (v9_m_s : TX12_s) (H : Heap) (locs : List Loc) (ls : Array Slot), f_X12_goesOn_L9 n9 v9_m_s = some out → va_P (dC, dI) vwCl ([(a0, .inr (9, [g3, g4, g5, g6, g7, .ref a1, .int v9_m_s.2.1, .int v9_m_s.2.2.1, .int v9_m_s.2.2.2.1, .int v9_m_s.2.2.2.2.1, .int v9_m_s.2.2.2.2.2.1, .int v9_m_s.2.2.2.2.2.2.1, .int v9_m_s.2.2.2.2.2.2.2.1, .int v9_m_s.2.2.2.2.2.2.2.2.1, .long v9_m_s.2.2.2.2.2.2.2.2.2, g8, g9, g10, g11, g12, g13, g14, g15, g16, g17, g18, g19, g20, g21, g22])), (a1, .inl (cB23, 900, .inl v9_m_s.1))]) H → va_D A ([(a0, .inr (9, [g3, g4, g5, g6, g7, .ref a1, .int v9_m_s.2.1, .int v9_m_s.2.2.1, .int v9_m_s.2.2.2.1, .int v9_m_s.2.2.2.2.1, .int v9_m_s.2.2.2.2.2.1, .int v9_m_s.2.2.2.2.2.2.1, .int v9_m_s.2.2.2.2.2.2.2.1, .int v9_m_s.2.2.2.2.2.2.2.2.1, .long v9_m_s.2.2.2.2.2.2.2.2.2, g8, g9, g10, g11, g12, g13, g14, g15, g16, g17, g18, g19, g20, g21, g22])), (a1, .inl (cB23, 900, .inl v9_m_s.1))]) → va_S A s.heap H locs → lv_has ls 3 [(0, .ref a0)] → W p l e (headSpec vfX12_goesOn { frames := 1, cells := 0, slots := 0, locals := 21 }).room s m ([.ref a0]).toArray below meth c H locs 0 0 QQ (F0 m 9 ls []) := by
    intro n9
    induction n9 with
    | zero =>
      intro v9_m_s H locs ls h  _ _ _ _
      rw [f_X12_goesOn_L9] at h
      cases h
    | succ n9 ih9 =>
      intro v9_m_s H locs ls h  hP hD hS hl
      rw [f_X12_goesOn_L9] at h
      refine lv_aload_n hx hb dX12_goesOn_9 rfl (lv_at hl 0 rfl) ?_
      refine lv_aload_n hx hb dX12_goesOn_10 rfl (lv_at hl 0 rfl) ?_
      refine va_get (D := (dC, dI)) (ci := 9) (v := .int v9_m_s.2.2.2.1) (C := RX12) (T := TX12) (N := 30) hx hb hts ifX12_goesOn_X12 hown hK hP 0 rfl rfl 8 (by decide) (hts (.fieldLink RX12 71 "HookPierModel" "spot" "I") (List.mem_of_getElem? (i := 2) rfl)) (fun _ h9 => h9) rfl dX12_goesOn_11 ?_
      obtain ⟨o14, eo14, h⟩ := bd_of h
      refine cl_i (wc := ([(a0, .inr (9, [g3, g4, g5, g6, g7, .ref a1, .int v9_m_s.2.1, .int v9_m_s.2.2.1, .int v9_m_s.2.2.2.1, .int v9_m_s.2.2.2.2.1, .int v9_m_s.2.2.2.2.2.1, .int v9_m_s.2.2.2.2.2.2.1, .int v9_m_s.2.2.2.2.2.2.2.1, .int v9_m_s.2.2.2.2.2.2.2.2.1, .long v9_m_s.2.2.2.2.2.2.2.2.2, g8, g9, g10, g11, g12, g13, g14, g15, g16, g17, g18, g19, g20, g21, g22])), (a1, .inl (cB23, 900, .inl v9_m_s.1))])) (wr := []) (va_runV (As := [.int v9_m_s.2.2.2.1]) (rest := []) ⟨hx, hb, hml, hown, hts⟩ (kfX12_byteAt l dC dI a0 v9_m_s.2.2.2.1 a1 v9_m_s (g3) (g4) (g5) (g6) (g7) (g8) (g9) (g10) (g11) (g12) (g13) (g14) (g15) (g16) (g17) (g18) (g19) (g20) (g21) (g22) cB23 H.size o14 eo14) (cwV 1 hts gfX12_goesOn_0 rfl rfl rfl (by decide +kernel) ⟨(Nat.le_of_ble_eq_true rfl), (Nat.le_of_ble_eq_true rfl)⟩) (PV (hP.sub (ws' := ([(a0, .inr (9, [g3, g4, g5, g6, g7, .ref a1, .int v9_m_s.2.1, .int v9_m_s.2.2.1, .int v9_m_s.2.2.2.1, .int v9_m_s.2.2.2.2.1, .int v9_m_s.2.2.2.2.2.1, .int v9_m_s.2.2.2.2.2.2.1, .int v9_m_s.2.2.2.2.2.2.2.1, .int v9_m_s.2.2.2.2.2.2.2.2.1, .long v9_m_s.2.2.2.2.2.2.2.2.2, g8, g9, g10, g11, g12, g13, g14, g15, g16, g17, g18, g19, g20, g21, g22])), (a1, .inl (cB23, 900, .inl v9_m_s.1))])) [0, 1] rfl) (hK.sub (tys' := ((cB23, .byte) :: [])) [0] rfl) (hD.sub (ws' := ([(a0, .inr (9, [g3, g4, g5, g6, g7, .ref a1, .int v9_m_s.2.1, .int v9_m_s.2.2.1, .int v9_m_s.2.2.2.1, .int v9_m_s.2.2.2.2.1, .int v9_m_s.2.2.2.2.2.1, .int v9_m_s.2.2.2.2.2.2.1, .int v9_m_s.2.2.2.2.2.2.2.1, .int v9_m_s.2.2.2.2.2.2.2.2.1, .long v9_m_s.2.2.2.2.2.2.2.2.2, g8, g9, g10, g11, g12, g13, g14, g15, g16, g17, g18, g19, g20, g21, g22])), (a1, .inl (cB23, 900, .inl v9_m_s.1))])) [0, 1] (by decide) rfl) hN 0 rfl rfl) rfl rfl hl.1 rfl (lv_room (Nat.le_of_ble_eq_true rfl)) dX12_goesOn_14 ⟨(Nat.le_of_ble_eq_true rfl), (Nat.le_of_ble_eq_true rfl)⟩) hP hD hK hS hA [0, 1] [] rfl rfl (by decide) (by decide) (fun r14 _ H locs hw hP hD _ hS => ?_)
      obtain rfl := hw.symm
      have hP : va_P (dC, dI) vwCl ([(a0, .inr (9, [g3, g4, g5, g6, g7, .ref a1, .int v9_m_s.2.1, .int v9_m_s.2.2.1, .int v9_m_s.2.2.2.1, .int v9_m_s.2.2.2.2.1, .int v9_m_s.2.2.2.2.2.1, .int v9_m_s.2.2.2.2.2.2.1, .int v9_m_s.2.2.2.2.2.2.2.1, .int v9_m_s.2.2.2.2.2.2.2.2.1, .long v9_m_s.2.2.2.2.2.2.2.2.2, g8, g9, g10, g11, g12, g13, g14, g15, g16, g17, g18, g19, g20, g21, g22])), (a1, .inl (cB23, 900, .inl v9_m_s.1))]) H := hP
      have hD : va_D A ([(a0, .inr (9, [g3, g4, g5, g6, g7, .ref a1, .int v9_m_s.2.1, .int v9_m_s.2.2.1, .int v9_m_s.2.2.2.1, .int v9_m_s.2.2.2.2.1, .int v9_m_s.2.2.2.2.2.1, .int v9_m_s.2.2.2.2.2.2.1, .int v9_m_s.2.2.2.2.2.2.2.1, .int v9_m_s.2.2.2.2.2.2.2.2.1, .long v9_m_s.2.2.2.2.2.2.2.2.2, g8, g9, g10, g11, g12, g13, g14, g15, g16, g17, g18, g19, g20, g21, g22])), (a1, .inl (cB23, 900, .inl v9_m_s.1))]) := hD
      refine lv_bipush (v := 32) hx hb dX12_goesOn_17 (by decide) ?_
      refine lv_icmp_ne (tgt := 35) hx hb dX12_goesOn_19 (by decide) (fun c19 => ?_) (fun c19 => ?_)
      · have h := (if_neg c19).symm.trans h
        refine lv_aload_n hx hb dX12_goesOn_35 rfl (lv_at hl 0 rfl) ?_
        refine lv_aload_n hx hb dX12_goesOn_36 rfl (lv_at hl 0 rfl) ?_
        refine va_get (D := (dC, dI)) (ci := 9) (v := .int v9_m_s.2.2.2.1) (C := RX12) (T := TX12) (N := 30) hx hb hts ifX12_goesOn_X12 hown hK hP 0 rfl rfl 8 (by decide) (hts (.fieldLink RX12 71 "HookPierModel" "spot" "I") (List.mem_of_getElem? (i := 2) rfl)) (fun _ h9 => h9) rfl dX12_goesOn_37 ?_
        refine va_put (D := (dC, dI)) (ci := 9) (v := .int v9_m_s.2.2.2.1) (ty := .int) (C := RX12) (T := TX12) (N := 30) hx hb hts ifX12_goesOn_X12 tyX12 tyX12_ok nmX12 hown hK hP hD hS 0 rfl rfl 10 (by decide) (hts (.fieldLink RX12 77 "HookPierModel" "place" "I") (List.mem_of_getElem? (i := 7) rfl)) (fun _ h9 => h9) rfl (by decide +kernel) rfl rfl (Nat.le_of_ble_eq_true rfl) dX12_goesOn_40 (fun H locs hP hD hS => ?_)
        have hP : va_P (dC, dI) vwCl ([(a0, .inr (9, [g3, g4, g5, g6, g7, .ref a1, .int v9_m_s.2.1, .int v9_m_s.2.2.1, .int v9_m_s.2.2.2.1, .int v9_m_s.2.2.2.2.1, .int v9_m_s.2.2.2.1, .int v9_m_s.2.2.2.2.2.2.1, .int v9_m_s.2.2.2.2.2.2.2.1, .int v9_m_s.2.2.2.2.2.2.2.2.1, .long v9_m_s.2.2.2.2.2.2.2.2.2, g8, g9, g10, g11, g12, g13, g14, g15, g16, g17, g18, g19, g20, g21, g22])), (a1, .inl (cB23, 900, .inl v9_m_s.1))]) H := hP
        have hD : va_D A ([(a0, .inr (9, [g3, g4, g5, g6, g7, .ref a1, .int v9_m_s.2.1, .int v9_m_s.2.2.1, .int v9_m_s.2.2.2.1, .int v9_m_s.2.2.2.2.1, .int v9_m_s.2.2.2.1, .int v9_m_s.2.2.2.2.2.2.1, .int v9_m_s.2.2.2.2.2.2.2.1, .int v9_m_s.2.2.2.2.2.2.2.2.1, .long v9_m_s.2.2.2.2.2.2.2.2.2, g8, g9, g10, g11, g12, g13, g14, g15, g16, g17, g18, g19, g20, g21, g22])), (a1, .inl (cB23, 900, .inl v9_m_s.1))]) := hD
        refine lv_aload_n hx hb dX12_goesOn_43 rfl (lv_at hl 0 rfl) ?_
        refine lv_iconst (v := 0) hx hb dX12_goesOn_44 (by decide) ?_
        refine va_put (D := (dC, dI)) (ci := 9) (v := .int 0) (ty := .int) (C := RX12) (T := TX12) (N := 30) hx hb hts ifX12_goesOn_X12 tyX12 tyX12_ok nmX12 hown hK hP hD hS 0 rfl rfl 9 (by decide) (hts (.fieldLink RX12 68 "HookPierModel" "sort" "I") (List.mem_of_getElem? (i := 1) rfl)) (fun _ h9 => h9) rfl (by decide +kernel) rfl rfl (Nat.le_of_ble_eq_true rfl) dX12_goesOn_45 (fun H locs hP hD hS => ?_)
        have hP : va_P (dC, dI) vwCl ([(a0, .inr (9, [g3, g4, g5, g6, g7, .ref a1, .int v9_m_s.2.1, .int v9_m_s.2.2.1, .int v9_m_s.2.2.2.1, .int 0, .int v9_m_s.2.2.2.1, .int v9_m_s.2.2.2.2.2.2.1, .int v9_m_s.2.2.2.2.2.2.2.1, .int v9_m_s.2.2.2.2.2.2.2.2.1, .long v9_m_s.2.2.2.2.2.2.2.2.2, g8, g9, g10, g11, g12, g13, g14, g15, g16, g17, g18, g19, g20, g21, g22])), (a1, .inl (cB23, 900, .inl v9_m_s.1))]) H := hP
        have hD : va_D A ([(a0, .inr (9, [g3, g4, g5, g6, g7, .ref a1, .int v9_m_s.2.1, .int v9_m_s.2.2.1, .int v9_m_s.2.2.2.1, .int 0, .int v9_m_s.2.2.2.1, .int v9_m_s.2.2.2.2.2.2.1, .int v9_m_s.2.2.2.2.2.2.2.1, .int v9_m_s.2.2.2.2.2.2.2.2.1, .long v9_m_s.2.2.2.2.2.2.2.2.2, g8, g9, g10, g11, g12, g13, g14, g15, g16, g17, g18, g19, g20, g21, g22])), (a1, .inl (cB23, 900, .inl v9_m_s.1))]) := hD
        refine lv_aload_n hx hb dX12_goesOn_48 rfl (lv_at hl 0 rfl) ?_
        refine lv_aload_n hx hb dX12_goesOn_49 rfl (lv_at hl 0 rfl) ?_
        refine va_get (D := (dC, dI)) (ci := 9) (v := .int v9_m_s.2.2.2.1) (C := RX12) (T := TX12) (N := 30) hx hb hts ifX12_goesOn_X12 hown hK hP 0 rfl rfl 8 (by decide) (hts (.fieldLink RX12 71 "HookPierModel" "spot" "I") (List.mem_of_getElem? (i := 2) rfl)) (fun _ h9 => h9) rfl dX12_goesOn_50 ?_
        obtain ⟨o53, eo53, h⟩ := bd_of h
        refine cl_i (wc := ([(a0, .inr (9, [g3, g4, g5, g6, g7, .ref a1, .int v9_m_s.2.1, .int v9_m_s.2.2.1, .int v9_m_s.2.2.2.1, .int 0, .int v9_m_s.2.2.2.1, .int v9_m_s.2.2.2.2.2.2.1, .int v9_m_s.2.2.2.2.2.2.2.1, .int v9_m_s.2.2.2.2.2.2.2.2.1, .long v9_m_s.2.2.2.2.2.2.2.2.2, g8, g9, g10, g11, g12, g13, g14, g15, g16, g17, g18, g19, g20, g21, g22])), (a1, .inl (cB23, 900, .inl v9_m_s.1))])) (wr := []) (va_runV (As := [.int v9_m_s.2.2.2.1]) (rest := []) ⟨hx, hb, hml, hown, hts⟩ (kfX12_byteAt l dC dI a0 v9_m_s.2.2.2.1 a1 (v9_m_s.1, v9_m_s.2.1, v9_m_s.2.2.1, v9_m_s.2.2.2.1, (0 : Int32), v9_m_s.2.2.2.1, v9_m_s.2.2.2.2.2.2) (g3) (g4) (g5) (g6) (g7) (g8) (g9) (g10) (g11) (g12) (g13) (g14) (g15) (g16) (g17) (g18) (g19) (g20) (g21) (g22) cB23 H.size o53 eo53) (cwV 1 hts gfX12_goesOn_0 rfl rfl rfl (by decide +kernel) ⟨(Nat.le_of_ble_eq_true rfl), (Nat.le_of_ble_eq_true rfl)⟩) (PV (hP.sub (ws' := ([(a0, .inr (9, [g3, g4, g5, g6, g7, .ref a1, .int v9_m_s.2.1, .int v9_m_s.2.2.1, .int v9_m_s.2.2.2.1, .int 0, .int v9_m_s.2.2.2.1, .int v9_m_s.2.2.2.2.2.2.1, .int v9_m_s.2.2.2.2.2.2.2.1, .int v9_m_s.2.2.2.2.2.2.2.2.1, .long v9_m_s.2.2.2.2.2.2.2.2.2, g8, g9, g10, g11, g12, g13, g14, g15, g16, g17, g18, g19, g20, g21, g22])), (a1, .inl (cB23, 900, .inl v9_m_s.1))])) [0, 1] rfl) (hK.sub (tys' := ((cB23, .byte) :: [])) [0] rfl) (hD.sub (ws' := ([(a0, .inr (9, [g3, g4, g5, g6, g7, .ref a1, .int v9_m_s.2.1, .int v9_m_s.2.2.1, .int v9_m_s.2.2.2.1, .int 0, .int v9_m_s.2.2.2.1, .int v9_m_s.2.2.2.2.2.2.1, .int v9_m_s.2.2.2.2.2.2.2.1, .int v9_m_s.2.2.2.2.2.2.2.2.1, .long v9_m_s.2.2.2.2.2.2.2.2.2, g8, g9, g10, g11, g12, g13, g14, g15, g16, g17, g18, g19, g20, g21, g22])), (a1, .inl (cB23, 900, .inl v9_m_s.1))])) [0, 1] (by decide) rfl) hN 0 rfl rfl) rfl rfl hl.1 rfl (lv_room (Nat.le_of_ble_eq_true rfl)) dX12_goesOn_53 ⟨(Nat.le_of_ble_eq_true rfl), (Nat.le_of_ble_eq_true rfl)⟩) hP hD hK hS hA [0, 1] [] rfl rfl (by decide) (by decide) (fun r53 _ H locs hw hP hD _ hS => ?_)
        obtain rfl := hw.symm
        have hP : va_P (dC, dI) vwCl ([(a0, .inr (9, [g3, g4, g5, g6, g7, .ref a1, .int v9_m_s.2.1, .int v9_m_s.2.2.1, .int v9_m_s.2.2.2.1, .int 0, .int v9_m_s.2.2.2.1, .int v9_m_s.2.2.2.2.2.2.1, .int v9_m_s.2.2.2.2.2.2.2.1, .int v9_m_s.2.2.2.2.2.2.2.2.1, .long v9_m_s.2.2.2.2.2.2.2.2.2, g8, g9, g10, g11, g12, g13, g14, g15, g16, g17, g18, g19, g20, g21, g22])), (a1, .inl (cB23, 900, .inl v9_m_s.1))]) H := hP
        have hD : va_D A ([(a0, .inr (9, [g3, g4, g5, g6, g7, .ref a1, .int v9_m_s.2.1, .int v9_m_s.2.2.1, .int v9_m_s.2.2.2.1, .int 0, .int v9_m_s.2.2.2.1, .int v9_m_s.2.2.2.2.2.2.1, .int v9_m_s.2.2.2.2.2.2.2.1, .int v9_m_s.2.2.2.2.2.2.2.2.1, .long v9_m_s.2.2.2.2.2.2.2.2.2, g8, g9, g10, g11, g12, g13, g14, g15, g16, g17, g18, g19, g20, g21, g22])), (a1, .inl (cB23, 900, .inl v9_m_s.1))]) := hD
        refine lv_istore_n (lv' := [(1, .int o53), (0, .ref a0)]) hx hb dX12_goesOn_56 rfl hl (by decide) rfl (fun ls hl => ?_)
        refine lv_iconst (v := 0) hx hb dX12_goesOn_57 (by decide) ?_
        refine lv_istore_n (lv' := [(2, .int 0), (1, .int o53), (0, .ref a0)]) hx hb dX12_goesOn_58 rfl hl (by decide) rfl (fun ls hl => ?_)
        refine lv_iload_n hx hb dX12_goesOn_59 rfl (lv_at hl 1 rfl) ?_
        refine lv_iconst (v := (-1)) hx hb dX12_goesOn_60 (by decide) ?_
        refine lv_icmp_ne (tgt := 72) hx hb dX12_goesOn_61 (by decide) (fun c61 => ?_) (fun c61 => ?_)
        · have h := (if_neg c61).symm.trans h
          refine lv_iload_n hx hb dX12_goesOn_72 rfl (lv_at hl 1 rfl) ?_
          obtain ⟨o73, eo73⟩ : ∃ o, o = f_X12_isLetter o53 := ⟨_, rfl⟩
          have h := nm_of h o73 eo73
          refine cl_i (wc := []) (wr := ([(a0, .inr (9, [g3, g4, g5, g6, g7, .ref a1, .int v9_m_s.2.1, .int v9_m_s.2.2.1, .int v9_m_s.2.2.2.1, .int 0, .int v9_m_s.2.2.2.1, .int v9_m_s.2.2.2.2.2.2.1, .int v9_m_s.2.2.2.2.2.2.2.1, .int v9_m_s.2.2.2.2.2.2.2.2.1, .long v9_m_s.2.2.2.2.2.2.2.2.2, g8, g9, g10, g11, g12, g13, g14, g15, g16, g17, g18, g19, g20, g21, g22])), (a1, .inl (cB23, 900, .inl v9_m_s.1))])) (va_runS (As := [.int o53]) (rest := []) ⟨hx, hb, hml, hown, hts⟩ (kfX12_isLetter l dC dI o53 H.size o73 eo73.symm) (va_cwS 1 hts gfX12_goesOn_1 rfl rfl rfl (by decide +kernel) ⟨(Nat.le_of_ble_eq_true rfl), (Nat.le_of_ble_eq_true rfl)⟩) (PS (hP.sub (ws' := []) [] rfl) (hK.sub (tys' := ([])) [] rfl) (hD.sub (ws' := []) [] (by decide) rfl) hN) rfl rfl hl.1 rfl (lv_room (Nat.le_of_ble_eq_true rfl)) dX12_goesOn_73 ⟨(Nat.le_of_ble_eq_true rfl), (Nat.le_of_ble_eq_true rfl)⟩) hP hD hK hS hA [] [0, 1] rfl rfl (by decide) (by decide) (fun r73 _ H locs hw hP hD _ hS => ?_)
          obtain ⟨hw, br73⟩ := hw
          obtain rfl := hw.symm
          have hP : va_P (dC, dI) vwCl ([(a0, .inr (9, [g3, g4, g5, g6, g7, .ref a1, .int v9_m_s.2.1, .int v9_m_s.2.2.1, .int v9_m_s.2.2.2.1, .int 0, .int v9_m_s.2.2.2.1, .int v9_m_s.2.2.2.2.2.2.1, .int v9_m_s.2.2.2.2.2.2.2.1, .int v9_m_s.2.2.2.2.2.2.2.2.1, .long v9_m_s.2.2.2.2.2.2.2.2.2, g8, g9, g10, g11, g12, g13, g14, g15, g16, g17, g18, g19, g20, g21, g22])), (a1, .inl (cB23, 900, .inl v9_m_s.1))]) H := hP
          have hD : va_D A ([(a0, .inr (9, [g3, g4, g5, g6, g7, .ref a1, .int v9_m_s.2.1, .int v9_m_s.2.2.1, .int v9_m_s.2.2.2.1, .int 0, .int v9_m_s.2.2.2.1, .int v9_m_s.2.2.2.2.2.2.1, .int v9_m_s.2.2.2.2.2.2.2.1, .int v9_m_s.2.2.2.2.2.2.2.2.1, .long v9_m_s.2.2.2.2.2.2.2.2.2, g8, g9, g10, g11, g12, g13, g14, g15, g16, g17, g18, g19, g20, g21, g22])), (a1, .inl (cB23, 900, .inl v9_m_s.1))]) := hD
          refine lv_if_eq (tgt := 161) hx hb dX12_goesOn_76 (by decide) (fun c76 => ?_) (fun c76 => ?_)
          · have h := (if_pos c76).symm.trans h
            refine lv_iload_n hx hb dX12_goesOn_161 rfl (lv_at hl 1 rfl) ?_
            obtain ⟨o162, eo162⟩ : ∃ o, o = f_X12_isDigit o53 := ⟨_, rfl⟩
            have h := nm_of h o162 eo162
            refine cl_i (wc := []) (wr := ([(a0, .inr (9, [g3, g4, g5, g6, g7, .ref a1, .int v9_m_s.2.1, .int v9_m_s.2.2.1, .int v9_m_s.2.2.2.1, .int 0, .int v9_m_s.2.2.2.1, .int v9_m_s.2.2.2.2.2.2.1, .int v9_m_s.2.2.2.2.2.2.2.1, .int v9_m_s.2.2.2.2.2.2.2.2.1, .long v9_m_s.2.2.2.2.2.2.2.2.2, g8, g9, g10, g11, g12, g13, g14, g15, g16, g17, g18, g19, g20, g21, g22])), (a1, .inl (cB23, 900, .inl v9_m_s.1))])) (va_runS (As := [.int o53]) (rest := []) ⟨hx, hb, hml, hown, hts⟩ (kfX12_isDigit l dC dI o53 H.size o162 eo162.symm) (va_cwS 1 hts gfX12_goesOn_2 rfl rfl rfl (by decide +kernel) ⟨(Nat.le_of_ble_eq_true rfl), (Nat.le_of_ble_eq_true rfl)⟩) (PS (hP.sub (ws' := []) [] rfl) (hK.sub (tys' := ([])) [] rfl) (hD.sub (ws' := []) [] (by decide) rfl) hN) rfl rfl hl.1 rfl (lv_room (Nat.le_of_ble_eq_true rfl)) dX12_goesOn_162 ⟨(Nat.le_of_ble_eq_true rfl), (Nat.le_of_ble_eq_true rfl)⟩) hP hD hK hS hA [] [0, 1] rfl rfl (by decide) (by decide) (fun r162 _ H locs hw hP hD _ hS => ?_)
            obtain ⟨hw, br162⟩ := hw
            obtain rfl := hw.symm
            have hP : va_P (dC, dI) vwCl ([(a0, .inr (9, [g3, g4, g5, g6, g7, .ref a1, .int v9_m_s.2.1, .int v9_m_s.2.2.1, .int v9_m_s.2.2.2.1, .int 0, .int v9_m_s.2.2.2.1, .int v9_m_s.2.2.2.2.2.2.1, .int v9_m_s.2.2.2.2.2.2.2.1, .int v9_m_s.2.2.2.2.2.2.2.2.1, .long v9_m_s.2.2.2.2.2.2.2.2.2, g8, g9, g10, g11, g12, g13, g14, g15, g16, g17, g18, g19, g20, g21, g22])), (a1, .inl (cB23, 900, .inl v9_m_s.1))]) H := hP
            have hD : va_D A ([(a0, .inr (9, [g3, g4, g5, g6, g7, .ref a1, .int v9_m_s.2.1, .int v9_m_s.2.2.1, .int v9_m_s.2.2.2.1, .int 0, .int v9_m_s.2.2.2.1, .int v9_m_s.2.2.2.2.2.2.1, .int v9_m_s.2.2.2.2.2.2.2.1, .int v9_m_s.2.2.2.2.2.2.2.2.1, .long v9_m_s.2.2.2.2.2.2.2.2.2, g8, g9, g10, g11, g12, g13, g14, g15, g16, g17, g18, g19, g20, g21, g22])), (a1, .inl (cB23, 900, .inl v9_m_s.1))]) := hD
            refine lv_if_eq (tgt := 244) hx hb dX12_goesOn_165 (by decide) (fun c165 => ?_) (fun c165 => ?_)
            · have h := (if_pos c165).symm.trans h
              refine lv_iload_n hx hb dX12_goesOn_244 rfl (lv_at hl 1 rfl) ?_
              refine lv_bipush (v := 59) hx hb dX12_goesOn_245 (by decide) ?_
              refine lv_icmp_ne (tgt := 265) hx hb dX12_goesOn_247 (by decide) (fun c247 => ?_) (fun c247 => ?_)
              · have h := (if_neg c247).symm.trans h
                obtain rfl := Option.some.inj h
                have hP9 := hP.sub (ws' := ([(a0, .inr (9, [g3, g4, g5, g6, g7, .ref a1, .int v9_m_s.2.1, .int v9_m_s.2.2.1, .int v9_m_s.2.2.2.1, .int 0, .int v9_m_s.2.2.2.1, .int v9_m_s.2.2.2.2.2.2.1, .int v9_m_s.2.2.2.2.2.2.2.1, .int v9_m_s.2.2.2.2.2.2.2.2.1, .long v9_m_s.2.2.2.2.2.2.2.2.2, g8, g9, g10, g11, g12, g13, g14, g15, g16, g17, g18, g19, g20, g21, g22])), (a1, .inl (cB23, 900, .inl v9_m_s.1))])) [0, 1] rfl
                have hD9 := hD.sub (ws' := ([(a0, .inr (9, [g3, g4, g5, g6, g7, .ref a1, .int v9_m_s.2.1, .int v9_m_s.2.2.1, .int v9_m_s.2.2.2.1, .int 0, .int v9_m_s.2.2.2.1, .int v9_m_s.2.2.2.2.2.2.1, .int v9_m_s.2.2.2.2.2.2.2.1, .int v9_m_s.2.2.2.2.2.2.2.2.1, .long v9_m_s.2.2.2.2.2.2.2.2.2, g8, g9, g10, g11, g12, g13, g14, g15, g16, g17, g18, g19, g20, g21, g22])), (a1, .inl (cB23, 900, .inl v9_m_s.1))])) [0, 1] (by decide) rfl
                have hK9 := hK.sub (tys' := []) [] rfl
                rw [hQQ]
                exact W.vret hx hb hr (fun t ht hW => ⟨⟨(), rfl, trivial, by rw [ht]; exact hP9, va_K.moved hW.alike hK9, hD9⟩, hS.F ht⟩) hS.2.2 dX12_goesOn_265
              · have h := (if_pos c247).symm.trans h
                refine lv_aload_n hx hb dX12_goesOn_250 rfl (lv_at hl 2 rfl) ?_
                refine lv_iconst (v := 4) hx hb dX12_goesOn_251 (by decide) ?_
                refine va_put (D := (dC, dI)) (ci := 9) (v := .int 4) (ty := .int) (C := RX12) (T := TX12) (N := 30) hx hb hts ifX12_goesOn_X12 tyX12 tyX12_ok nmX12 hown hK hP hD hS 0 rfl rfl 9 (by decide) (hts (.fieldLink RX12 68 "HookPierModel" "sort" "I") (List.mem_of_getElem? (i := 1) rfl)) (fun _ h9 => h9) rfl (by decide +kernel) rfl rfl (Nat.le_of_ble_eq_true rfl) dX12_goesOn_252 (fun H locs hP hD hS => ?_)
                have hP : va_P (dC, dI) vwCl ([(a0, .inr (9, [g3, g4, g5, g6, g7, .ref a1, .int v9_m_s.2.1, .int v9_m_s.2.2.1, .int v9_m_s.2.2.2.1, .int 4, .int v9_m_s.2.2.2.1, .int v9_m_s.2.2.2.2.2.2.1, .int v9_m_s.2.2.2.2.2.2.2.1, .int v9_m_s.2.2.2.2.2.2.2.2.1, .long v9_m_s.2.2.2.2.2.2.2.2.2, g8, g9, g10, g11, g12, g13, g14, g15, g16, g17, g18, g19, g20, g21, g22])), (a1, .inl (cB23, 900, .inl v9_m_s.1))]) H := hP
                have hD : va_D A ([(a0, .inr (9, [g3, g4, g5, g6, g7, .ref a1, .int v9_m_s.2.1, .int v9_m_s.2.2.1, .int v9_m_s.2.2.2.1, .int 4, .int v9_m_s.2.2.2.1, .int v9_m_s.2.2.2.2.2.2.1, .int v9_m_s.2.2.2.2.2.2.2.1, .int v9_m_s.2.2.2.2.2.2.2.2.1, .long v9_m_s.2.2.2.2.2.2.2.2.2, g8, g9, g10, g11, g12, g13, g14, g15, g16, g17, g18, g19, g20, g21, g22])), (a1, .inl (cB23, 900, .inl v9_m_s.1))]) := hD
                refine lv_aload_n hx hb dX12_goesOn_255 rfl (lv_at hl 2 rfl) ?_
                refine lv_dup hx hb dX12_goesOn_256 rfl ?_
                refine va_get (D := (dC, dI)) (ci := 9) (v := .int v9_m_s.2.2.2.1) (C := RX12) (T := TX12) (N := 30) hx hb hts ifX12_goesOn_X12 hown hK hP 0 rfl rfl 8 (by decide) (hts (.fieldLink RX12 71 "HookPierModel" "spot" "I") (List.mem_of_getElem? (i := 2) rfl)) (fun _ h9 => h9) rfl dX12_goesOn_257 ?_
                refine lv_iconst (v := 1) hx hb dX12_goesOn_260 (by decide) ?_
                refine lv_iadd hx hb dX12_goesOn_261 ?_
                refine va_put (D := (dC, dI)) (ci := 9) (v := .int (v9_m_s.2.2.2.1 + (1 : Int32))) (ty := .int) (C := RX12) (T := TX12) (N := 30) hx hb hts ifX12_goesOn_X12 tyX12 tyX12_ok nmX12 hown hK hP hD hS 0 rfl rfl 8 (by decide) (hts (.fieldLink RX12 71 "HookPierModel" "spot" "I") (List.mem_of_getElem? (i := 2) rfl)) (fun _ h9 => h9) rfl (by decide +kernel) rfl rfl (Nat.le_of_ble_eq_true rfl) dX12_goesOn_262 (fun H locs hP hD hS => ?_)
                have hP : va_P (dC, dI) vwCl ([(a0, .inr (9, [g3, g4, g5, g6, g7, .ref a1, .int v9_m_s.2.1, .int v9_m_s.2.2.1, .int (v9_m_s.2.2.2.1 + (1 : Int32)), .int 4, .int v9_m_s.2.2.2.1, .int v9_m_s.2.2.2.2.2.2.1, .int v9_m_s.2.2.2.2.2.2.2.1, .int v9_m_s.2.2.2.2.2.2.2.2.1, .long v9_m_s.2.2.2.2.2.2.2.2.2, g8, g9, g10, g11, g12, g13, g14, g15, g16, g17, g18, g19, g20, g21, g22])), (a1, .inl (cB23, 900, .inl v9_m_s.1))]) H := hP
                have hD : va_D A ([(a0, .inr (9, [g3, g4, g5, g6, g7, .ref a1, .int v9_m_s.2.1, .int v9_m_s.2.2.1, .int (v9_m_s.2.2.2.1 + (1 : Int32)), .int 4, .int v9_m_s.2.2.2.1, .int v9_m_s.2.2.2.2.2.2.1, .int v9_m_s.2.2.2.2.2.2.2.1, .int v9_m_s.2.2.2.2.2.2.2.2.1, .long v9_m_s.2.2.2.2.2.2.2.2.2, g8, g9, g10, g11, g12, g13, g14, g15, g16, g17, g18, g19, g20, g21, g22])), (a1, .inl (cB23, 900, .inl v9_m_s.1))]) := hD
                obtain rfl := Option.some.inj h
                have hP9 := hP.sub (ws' := ([(a0, .inr (9, [g3, g4, g5, g6, g7, .ref a1, .int v9_m_s.2.1, .int v9_m_s.2.2.1, .int (v9_m_s.2.2.2.1 + (1 : Int32)), .int 4, .int v9_m_s.2.2.2.1, .int v9_m_s.2.2.2.2.2.2.1, .int v9_m_s.2.2.2.2.2.2.2.1, .int v9_m_s.2.2.2.2.2.2.2.2.1, .long v9_m_s.2.2.2.2.2.2.2.2.2, g8, g9, g10, g11, g12, g13, g14, g15, g16, g17, g18, g19, g20, g21, g22])), (a1, .inl (cB23, 900, .inl v9_m_s.1))])) [0, 1] rfl
                have hD9 := hD.sub (ws' := ([(a0, .inr (9, [g3, g4, g5, g6, g7, .ref a1, .int v9_m_s.2.1, .int v9_m_s.2.2.1, .int (v9_m_s.2.2.2.1 + (1 : Int32)), .int 4, .int v9_m_s.2.2.2.1, .int v9_m_s.2.2.2.2.2.2.1, .int v9_m_s.2.2.2.2.2.2.2.1, .int v9_m_s.2.2.2.2.2.2.2.2.1, .long v9_m_s.2.2.2.2.2.2.2.2.2, g8, g9, g10, g11, g12, g13, g14, g15, g16, g17, g18, g19, g20, g21, g22])), (a1, .inl (cB23, 900, .inl v9_m_s.1))])) [0, 1] (by decide) rfl
                have hK9 := hK.sub (tys' := []) [] rfl
                rw [hQQ]
                exact W.vret hx hb hr (fun t ht hW => ⟨⟨(), rfl, trivial, by rw [ht]; exact hP9, va_K.moved hW.alike hK9, hD9⟩, hS.F ht⟩) hS.2.2 dX12_goesOn_265
            · have h := (if_neg c165).symm.trans h
              refine lv_aload_n hx hb dX12_goesOn_168 rfl (lv_at hl 2 rfl) ?_
              refine lv_iconst (v := 0) hx hb dX12_goesOn_169 (by decide) ?_
              refine va_put (D := (dC, dI)) (ci := 9) (v := .int 0) (ty := .int) (C := RX12) (T := TX12) (N := 30) hx hb hts ifX12_goesOn_X12 tyX12 tyX12_ok nmX12 hown hK hP hD hS 0 rfl rfl 11 (by decide) (hts (.fieldLink RX12 91 "HookPierModel" "number" "I") (List.mem_of_getElem? (i := 12) rfl)) (fun _ h9 => h9) rfl (by decide +kernel) rfl rfl (Nat.le_of_ble_eq_true rfl) dX12_goesOn_170 (fun H locs hP hD hS => ?_)
              have hP : va_P (dC, dI) vwCl ([(a0, .inr (9, [g3, g4, g5, g6, g7, .ref a1, .int v9_m_s.2.1, .int v9_m_s.2.2.1, .int v9_m_s.2.2.2.1, .int 0, .int v9_m_s.2.2.2.1, .int 0, .int v9_m_s.2.2.2.2.2.2.2.1, .int v9_m_s.2.2.2.2.2.2.2.2.1, .long v9_m_s.2.2.2.2.2.2.2.2.2, g8, g9, g10, g11, g12, g13, g14, g15, g16, g17, g18, g19, g20, g21, g22])), (a1, .inl (cB23, 900, .inl v9_m_s.1))]) H := hP
              have hD : va_D A ([(a0, .inr (9, [g3, g4, g5, g6, g7, .ref a1, .int v9_m_s.2.1, .int v9_m_s.2.2.1, .int v9_m_s.2.2.2.1, .int 0, .int v9_m_s.2.2.2.1, .int 0, .int v9_m_s.2.2.2.2.2.2.2.1, .int v9_m_s.2.2.2.2.2.2.2.2.1, .long v9_m_s.2.2.2.2.2.2.2.2.2, g8, g9, g10, g11, g12, g13, g14, g15, g16, g17, g18, g19, g20, g21, g22])), (a1, .inl (cB23, 900, .inl v9_m_s.1))]) := hD
              have L173 : ∀ (n173 : Nat) (v173_l2 : Int32) (v173_m_s : TX12_s) (H : Heap) (locs : List Loc) (ls : Array Slot), f_X12_goesOn_L173 n173 v173_l2 v173_m_s = some out → va_P (dC, dI) vwCl ([(a0, .inr (9, [g3, g4, g5, g6, g7, .ref a1, .int v173_m_s.2.1, .int v173_m_s.2.2.1, .int v173_m_s.2.2.2.1, .int v173_m_s.2.2.2.2.1, .int v173_m_s.2.2.2.2.2.1, .int v173_m_s.2.2.2.2.2.2.1, .int v173_m_s.2.2.2.2.2.2.2.1, .int v173_m_s.2.2.2.2.2.2.2.2.1, .long v173_m_s.2.2.2.2.2.2.2.2.2, g8, g9, g10, g11, g12, g13, g14, g15, g16, g17, g18, g19, g20, g21, g22])), (a1, .inl (cB23, 900, .inl v173_m_s.1))]) H → va_D A ([(a0, .inr (9, [g3, g4, g5, g6, g7, .ref a1, .int v173_m_s.2.1, .int v173_m_s.2.2.1, .int v173_m_s.2.2.2.1, .int v173_m_s.2.2.2.2.1, .int v173_m_s.2.2.2.2.2.1, .int v173_m_s.2.2.2.2.2.2.1, .int v173_m_s.2.2.2.2.2.2.2.1, .int v173_m_s.2.2.2.2.2.2.2.2.1, .long v173_m_s.2.2.2.2.2.2.2.2.2, g8, g9, g10, g11, g12, g13, g14, g15, g16, g17, g18, g19, g20, g21, g22])), (a1, .inl (cB23, 900, .inl v173_m_s.1))]) → va_S A s.heap H locs → lv_has ls 3 [(2, .int v173_l2), (0, .ref a0)] → W p l e (headSpec vfX12_goesOn { frames := 1, cells := 0, slots := 0, locals := 21 }).room s m ([.ref a0]).toArray below meth c H locs 0 0 QQ (F0 m 173 ls []) := by
                intro n173
                induction n173 with
                | zero =>
                  intro v173_l2 v173_m_s H locs ls h  _ _ _ _
                  rw [f_X12_goesOn_L173] at h
                  cases h
                | succ n173 ih173 =>
                  intro v173_l2 v173_m_s H locs ls h  hP hD hS hl
                  rw [f_X12_goesOn_L173] at h
                  refine lv_aload_n hx hb dX12_goesOn_173 rfl (lv_at hl 1 rfl) ?_
                  refine lv_aload_n hx hb dX12_goesOn_174 rfl (lv_at hl 1 rfl) ?_
                  refine va_get (D := (dC, dI)) (ci := 9) (v := .int v173_m_s.2.2.2.1) (C := RX12) (T := TX12) (N := 30) hx hb hts ifX12_goesOn_X12 hown hK hP 0 rfl rfl 8 (by decide) (hts (.fieldLink RX12 71 "HookPierModel" "spot" "I") (List.mem_of_getElem? (i := 2) rfl)) (fun _ h9 => h9) rfl dX12_goesOn_175 ?_
                  obtain ⟨o178, eo178, h⟩ := bd_of h
                  refine cl_i (wc := ([(a0, .inr (9, [g3, g4, g5, g6, g7, .ref a1, .int v173_m_s.2.1, .int v173_m_s.2.2.1, .int v173_m_s.2.2.2.1, .int v173_m_s.2.2.2.2.1, .int v173_m_s.2.2.2.2.2.1, .int v173_m_s.2.2.2.2.2.2.1, .int v173_m_s.2.2.2.2.2.2.2.1, .int v173_m_s.2.2.2.2.2.2.2.2.1, .long v173_m_s.2.2.2.2.2.2.2.2.2, g8, g9, g10, g11, g12, g13, g14, g15, g16, g17, g18, g19, g20, g21, g22])), (a1, .inl (cB23, 900, .inl v173_m_s.1))])) (wr := []) (va_runV (As := [.int v173_m_s.2.2.2.1]) (rest := []) ⟨hx, hb, hml, hown, hts⟩ (kfX12_byteAt l dC dI a0 v173_m_s.2.2.2.1 a1 v173_m_s (g3) (g4) (g5) (g6) (g7) (g8) (g9) (g10) (g11) (g12) (g13) (g14) (g15) (g16) (g17) (g18) (g19) (g20) (g21) (g22) cB23 H.size o178 eo178) (cwV 1 hts gfX12_goesOn_0 rfl rfl rfl (by decide +kernel) ⟨(Nat.le_of_ble_eq_true rfl), (Nat.le_of_ble_eq_true rfl)⟩) (PV (hP.sub (ws' := ([(a0, .inr (9, [g3, g4, g5, g6, g7, .ref a1, .int v173_m_s.2.1, .int v173_m_s.2.2.1, .int v173_m_s.2.2.2.1, .int v173_m_s.2.2.2.2.1, .int v173_m_s.2.2.2.2.2.1, .int v173_m_s.2.2.2.2.2.2.1, .int v173_m_s.2.2.2.2.2.2.2.1, .int v173_m_s.2.2.2.2.2.2.2.2.1, .long v173_m_s.2.2.2.2.2.2.2.2.2, g8, g9, g10, g11, g12, g13, g14, g15, g16, g17, g18, g19, g20, g21, g22])), (a1, .inl (cB23, 900, .inl v173_m_s.1))])) [0, 1] rfl) (hK.sub (tys' := ((cB23, .byte) :: [])) [0] rfl) (hD.sub (ws' := ([(a0, .inr (9, [g3, g4, g5, g6, g7, .ref a1, .int v173_m_s.2.1, .int v173_m_s.2.2.1, .int v173_m_s.2.2.2.1, .int v173_m_s.2.2.2.2.1, .int v173_m_s.2.2.2.2.2.1, .int v173_m_s.2.2.2.2.2.2.1, .int v173_m_s.2.2.2.2.2.2.2.1, .int v173_m_s.2.2.2.2.2.2.2.2.1, .long v173_m_s.2.2.2.2.2.2.2.2.2, g8, g9, g10, g11, g12, g13, g14, g15, g16, g17, g18, g19, g20, g21, g22])), (a1, .inl (cB23, 900, .inl v173_m_s.1))])) [0, 1] (by decide) rfl) hN 0 rfl rfl) rfl rfl hl.1 rfl (lv_room (Nat.le_of_ble_eq_true rfl)) dX12_goesOn_178 ⟨(Nat.le_of_ble_eq_true rfl), (Nat.le_of_ble_eq_true rfl)⟩) hP hD hK hS hA [0, 1] [] rfl rfl (by decide) (by decide) (fun r178 _ H locs hw hP hD _ hS => ?_)
                  obtain rfl := hw.symm
                  have hP : va_P (dC, dI) vwCl ([(a0, .inr (9, [g3, g4, g5, g6, g7, .ref a1, .int v173_m_s.2.1, .int v173_m_s.2.2.1, .int v173_m_s.2.2.2.1, .int v173_m_s.2.2.2.2.1, .int v173_m_s.2.2.2.2.2.1, .int v173_m_s.2.2.2.2.2.2.1, .int v173_m_s.2.2.2.2.2.2.2.1, .int v173_m_s.2.2.2.2.2.2.2.2.1, .long v173_m_s.2.2.2.2.2.2.2.2.2, g8, g9, g10, g11, g12, g13, g14, g15, g16, g17, g18, g19, g20, g21, g22])), (a1, .inl (cB23, 900, .inl v173_m_s.1))]) H := hP
                  have hD : va_D A ([(a0, .inr (9, [g3, g4, g5, g6, g7, .ref a1, .int v173_m_s.2.1, .int v173_m_s.2.2.1, .int v173_m_s.2.2.2.1, .int v173_m_s.2.2.2.2.1, .int v173_m_s.2.2.2.2.2.1, .int v173_m_s.2.2.2.2.2.2.1, .int v173_m_s.2.2.2.2.2.2.2.1, .int v173_m_s.2.2.2.2.2.2.2.2.1, .long v173_m_s.2.2.2.2.2.2.2.2.2, g8, g9, g10, g11, g12, g13, g14, g15, g16, g17, g18, g19, g20, g21, g22])), (a1, .inl (cB23, 900, .inl v173_m_s.1))]) := hD
                  obtain ⟨o181, eo181⟩ : ∃ o, o = f_X12_isDigit o178 := ⟨_, rfl⟩
                  have h := nm_of h o181 eo181
                  refine cl_i (wc := []) (wr := ([(a0, .inr (9, [g3, g4, g5, g6, g7, .ref a1, .int v173_m_s.2.1, .int v173_m_s.2.2.1, .int v173_m_s.2.2.2.1, .int v173_m_s.2.2.2.2.1, .int v173_m_s.2.2.2.2.2.1, .int v173_m_s.2.2.2.2.2.2.1, .int v173_m_s.2.2.2.2.2.2.2.1, .int v173_m_s.2.2.2.2.2.2.2.2.1, .long v173_m_s.2.2.2.2.2.2.2.2.2, g8, g9, g10, g11, g12, g13, g14, g15, g16, g17, g18, g19, g20, g21, g22])), (a1, .inl (cB23, 900, .inl v173_m_s.1))])) (va_runS (As := [.int o178]) (rest := []) ⟨hx, hb, hml, hown, hts⟩ (kfX12_isDigit l dC dI o178 H.size o181 eo181.symm) (va_cwS 1 hts gfX12_goesOn_2 rfl rfl rfl (by decide +kernel) ⟨(Nat.le_of_ble_eq_true rfl), (Nat.le_of_ble_eq_true rfl)⟩) (PS (hP.sub (ws' := []) [] rfl) (hK.sub (tys' := ([])) [] rfl) (hD.sub (ws' := []) [] (by decide) rfl) hN) rfl rfl hl.1 rfl (lv_room (Nat.le_of_ble_eq_true rfl)) dX12_goesOn_181 ⟨(Nat.le_of_ble_eq_true rfl), (Nat.le_of_ble_eq_true rfl)⟩) hP hD hK hS hA [] [0, 1] rfl rfl (by decide) (by decide) (fun r181 _ H locs hw hP hD _ hS => ?_)
                  obtain ⟨hw, br181⟩ := hw
                  obtain rfl := hw.symm
                  have hP : va_P (dC, dI) vwCl ([(a0, .inr (9, [g3, g4, g5, g6, g7, .ref a1, .int v173_m_s.2.1, .int v173_m_s.2.2.1, .int v173_m_s.2.2.2.1, .int v173_m_s.2.2.2.2.1, .int v173_m_s.2.2.2.2.2.1, .int v173_m_s.2.2.2.2.2.2.1, .int v173_m_s.2.2.2.2.2.2.2.1, .int v173_m_s.2.2.2.2.2.2.2.2.1, .long v173_m_s.2.2.2.2.2.2.2.2.2, g8, g9, g10, g11, g12, g13, g14, g15, g16, g17, g18, g19, g20, g21, g22])), (a1, .inl (cB23, 900, .inl v173_m_s.1))]) H := hP
                  have hD : va_D A ([(a0, .inr (9, [g3, g4, g5, g6, g7, .ref a1, .int v173_m_s.2.1, .int v173_m_s.2.2.1, .int v173_m_s.2.2.2.1, .int v173_m_s.2.2.2.2.1, .int v173_m_s.2.2.2.2.2.1, .int v173_m_s.2.2.2.2.2.2.1, .int v173_m_s.2.2.2.2.2.2.2.1, .int v173_m_s.2.2.2.2.2.2.2.2.1, .long v173_m_s.2.2.2.2.2.2.2.2.2, g8, g9, g10, g11, g12, g13, g14, g15, g16, g17, g18, g19, g20, g21, g22])), (a1, .inl (cB23, 900, .inl v173_m_s.1))]) := hD
                  refine lv_if_eq (tgt := 231) hx hb dX12_goesOn_184 (by decide) (fun c184 => ?_) (fun c184 => ?_)
                  · have h := (if_pos c184).symm.trans h
                    refine lv_iload_n hx hb dX12_goesOn_231 rfl (lv_at hl 0 rfl) ?_
                    refine lv_iconst (v := 2) hx hb dX12_goesOn_232 (by decide) ?_
                    refine lv_icmp_gt (tgt := 265) hx hb dX12_goesOn_233 (by decide) (fun c233 => ?_) (fun c233 => ?_)
                    · have h := (if_pos c233).symm.trans h
                      obtain rfl := Option.some.inj h
                      have hP9 := hP.sub (ws' := ([(a0, .inr (9, [g3, g4, g5, g6, g7, .ref a1, .int v173_m_s.2.1, .int v173_m_s.2.2.1, .int v173_m_s.2.2.2.1, .int v173_m_s.2.2.2.2.1, .int v173_m_s.2.2.2.2.2.1, .int v173_m_s.2.2.2.2.2.2.1, .int v173_m_s.2.2.2.2.2.2.2.1, .int v173_m_s.2.2.2.2.2.2.2.2.1, .long v173_m_s.2.2.2.2.2.2.2.2.2, g8, g9, g10, g11, g12, g13, g14, g15, g16, g17, g18, g19, g20, g21, g22])), (a1, .inl (cB23, 900, .inl v173_m_s.1))])) [0, 1] rfl
                      have hD9 := hD.sub (ws' := ([(a0, .inr (9, [g3, g4, g5, g6, g7, .ref a1, .int v173_m_s.2.1, .int v173_m_s.2.2.1, .int v173_m_s.2.2.2.1, .int v173_m_s.2.2.2.2.1, .int v173_m_s.2.2.2.2.2.1, .int v173_m_s.2.2.2.2.2.2.1, .int v173_m_s.2.2.2.2.2.2.2.1, .int v173_m_s.2.2.2.2.2.2.2.2.1, .long v173_m_s.2.2.2.2.2.2.2.2.2, g8, g9, g10, g11, g12, g13, g14, g15, g16, g17, g18, g19, g20, g21, g22])), (a1, .inl (cB23, 900, .inl v173_m_s.1))])) [0, 1] (by decide) rfl
                      have hK9 := hK.sub (tys' := []) [] rfl
                      rw [hQQ]
                      exact W.vret hx hb hr (fun t ht hW => ⟨⟨(), rfl, trivial, by rw [ht]; exact hP9, va_K.moved hW.alike hK9, hD9⟩, hS.F ht⟩) hS.2.2 dX12_goesOn_265
                    · have h := (if_neg c233).symm.trans h
                      refine lv_aload_n hx hb dX12_goesOn_236 rfl (lv_at hl 1 rfl) ?_
                      refine lv_iconst (v := 3) hx hb dX12_goesOn_237 (by decide) ?_
                      refine va_put (D := (dC, dI)) (ci := 9) (v := .int 3) (ty := .int) (C := RX12) (T := TX12) (N := 30) hx hb hts ifX12_goesOn_X12 tyX12 tyX12_ok nmX12 hown hK hP hD hS 0 rfl rfl 9 (by decide) (hts (.fieldLink RX12 68 "HookPierModel" "sort" "I") (List.mem_of_getElem? (i := 1) rfl)) (fun _ h9 => h9) rfl (by decide +kernel) rfl rfl (Nat.le_of_ble_eq_true rfl) dX12_goesOn_238 (fun H locs hP hD hS => ?_)
                      have hP : va_P (dC, dI) vwCl ([(a0, .inr (9, [g3, g4, g5, g6, g7, .ref a1, .int v173_m_s.2.1, .int v173_m_s.2.2.1, .int v173_m_s.2.2.2.1, .int 3, .int v173_m_s.2.2.2.2.2.1, .int v173_m_s.2.2.2.2.2.2.1, .int v173_m_s.2.2.2.2.2.2.2.1, .int v173_m_s.2.2.2.2.2.2.2.2.1, .long v173_m_s.2.2.2.2.2.2.2.2.2, g8, g9, g10, g11, g12, g13, g14, g15, g16, g17, g18, g19, g20, g21, g22])), (a1, .inl (cB23, 900, .inl v173_m_s.1))]) H := hP
                      have hD : va_D A ([(a0, .inr (9, [g3, g4, g5, g6, g7, .ref a1, .int v173_m_s.2.1, .int v173_m_s.2.2.1, .int v173_m_s.2.2.2.1, .int 3, .int v173_m_s.2.2.2.2.2.1, .int v173_m_s.2.2.2.2.2.2.1, .int v173_m_s.2.2.2.2.2.2.2.1, .int v173_m_s.2.2.2.2.2.2.2.2.1, .long v173_m_s.2.2.2.2.2.2.2.2.2, g8, g9, g10, g11, g12, g13, g14, g15, g16, g17, g18, g19, g20, g21, g22])), (a1, .inl (cB23, 900, .inl v173_m_s.1))]) := hD
                      refine lv_goto (tgt := 265) hx hb dX12_goesOn_241 (by decide) ?_
                      obtain rfl := Option.some.inj h
                      have hP9 := hP.sub (ws' := ([(a0, .inr (9, [g3, g4, g5, g6, g7, .ref a1, .int v173_m_s.2.1, .int v173_m_s.2.2.1, .int v173_m_s.2.2.2.1, .int 3, .int v173_m_s.2.2.2.2.2.1, .int v173_m_s.2.2.2.2.2.2.1, .int v173_m_s.2.2.2.2.2.2.2.1, .int v173_m_s.2.2.2.2.2.2.2.2.1, .long v173_m_s.2.2.2.2.2.2.2.2.2, g8, g9, g10, g11, g12, g13, g14, g15, g16, g17, g18, g19, g20, g21, g22])), (a1, .inl (cB23, 900, .inl v173_m_s.1))])) [0, 1] rfl
                      have hD9 := hD.sub (ws' := ([(a0, .inr (9, [g3, g4, g5, g6, g7, .ref a1, .int v173_m_s.2.1, .int v173_m_s.2.2.1, .int v173_m_s.2.2.2.1, .int 3, .int v173_m_s.2.2.2.2.2.1, .int v173_m_s.2.2.2.2.2.2.1, .int v173_m_s.2.2.2.2.2.2.2.1, .int v173_m_s.2.2.2.2.2.2.2.2.1, .long v173_m_s.2.2.2.2.2.2.2.2.2, g8, g9, g10, g11, g12, g13, g14, g15, g16, g17, g18, g19, g20, g21, g22])), (a1, .inl (cB23, 900, .inl v173_m_s.1))])) [0, 1] (by decide) rfl
                      have hK9 := hK.sub (tys' := []) [] rfl
                      rw [hQQ]
                      exact W.vret hx hb hr (fun t ht hW => ⟨⟨(), rfl, trivial, by rw [ht]; exact hP9, va_K.moved hW.alike hK9, hD9⟩, hS.F ht⟩) hS.2.2 dX12_goesOn_265
                  · have h := (if_neg c184).symm.trans h
                    refine lv_iload_n hx hb dX12_goesOn_187 rfl (lv_at hl 0 rfl) ?_
                    refine lv_iconst (v := 2) hx hb dX12_goesOn_188 (by decide) ?_
                    have J215 : ∀ (v215_m_s : TX12_s) (H : Heap) (locs : List Loc) (ls : Array Slot), f_X12_goesOn_J215 (f_X12_goesOn_L173 n173) v173_l2 v215_m_s = some out → va_P (dC, dI) vwCl ([(a0, .inr (9, [g3, g4, g5, g6, g7, .ref a1, .int v215_m_s.2.1, .int v215_m_s.2.2.1, .int v215_m_s.2.2.2.1, .int v215_m_s.2.2.2.2.1, .int v215_m_s.2.2.2.2.2.1, .int v215_m_s.2.2.2.2.2.2.1, .int v215_m_s.2.2.2.2.2.2.2.1, .int v215_m_s.2.2.2.2.2.2.2.2.1, .long v215_m_s.2.2.2.2.2.2.2.2.2, g8, g9, g10, g11, g12, g13, g14, g15, g16, g17, g18, g19, g20, g21, g22])), (a1, .inl (cB23, 900, .inl v215_m_s.1))]) H → va_D A ([(a0, .inr (9, [g3, g4, g5, g6, g7, .ref a1, .int v215_m_s.2.1, .int v215_m_s.2.2.1, .int v215_m_s.2.2.2.1, .int v215_m_s.2.2.2.2.1, .int v215_m_s.2.2.2.2.2.1, .int v215_m_s.2.2.2.2.2.2.1, .int v215_m_s.2.2.2.2.2.2.2.1, .int v215_m_s.2.2.2.2.2.2.2.2.1, .long v215_m_s.2.2.2.2.2.2.2.2.2, g8, g9, g10, g11, g12, g13, g14, g15, g16, g17, g18, g19, g20, g21, g22])), (a1, .inl (cB23, 900, .inl v215_m_s.1))]) → va_S A s.heap H locs → lv_has ls 3 [(2, .int v173_l2), (0, .ref a0)] → W p l e (headSpec vfX12_goesOn { frames := 1, cells := 0, slots := 0, locals := 21 }).room s m ([.ref a0]).toArray below meth c H locs 0 0 QQ (F0 m 215 ls []) := by
                      intro v215_m_s H locs ls h  hP hD hS hl
                      rw [f_X12_goesOn_J215] at h
                      refine lv_iinc (v := (v173_l2 + (1 : Int32))) (lv' := [(2, .int (v173_l2 + (1 : Int32))), (0, .ref a0)]) hx hb dX12_goesOn_215 hl (k := 0) rfl rfl (by decide) rfl (fun ls hl => ?_)
                      refine lv_aload_n hx hb dX12_goesOn_218 rfl (lv_at hl 1 rfl) ?_
                      refine lv_dup hx hb dX12_goesOn_219 rfl ?_
                      refine va_get (D := (dC, dI)) (ci := 9) (v := .int v215_m_s.2.2.2.1) (C := RX12) (T := TX12) (N := 30) hx hb hts ifX12_goesOn_X12 hown hK hP 0 rfl rfl 8 (by decide) (hts (.fieldLink RX12 71 "HookPierModel" "spot" "I") (List.mem_of_getElem? (i := 2) rfl)) (fun _ h9 => h9) rfl dX12_goesOn_220 ?_
                      refine lv_iconst (v := 1) hx hb dX12_goesOn_223 (by decide) ?_
                      refine lv_iadd hx hb dX12_goesOn_224 ?_
                      refine va_put (D := (dC, dI)) (ci := 9) (v := .int (v215_m_s.2.2.2.1 + (1 : Int32))) (ty := .int) (C := RX12) (T := TX12) (N := 30) hx hb hts ifX12_goesOn_X12 tyX12 tyX12_ok nmX12 hown hK hP hD hS 0 rfl rfl 8 (by decide) (hts (.fieldLink RX12 71 "HookPierModel" "spot" "I") (List.mem_of_getElem? (i := 2) rfl)) (fun _ h9 => h9) rfl (by decide +kernel) rfl rfl (Nat.le_of_ble_eq_true rfl) dX12_goesOn_225 (fun H locs hP hD hS => ?_)
                      have hP : va_P (dC, dI) vwCl ([(a0, .inr (9, [g3, g4, g5, g6, g7, .ref a1, .int v215_m_s.2.1, .int v215_m_s.2.2.1, .int (v215_m_s.2.2.2.1 + (1 : Int32)), .int v215_m_s.2.2.2.2.1, .int v215_m_s.2.2.2.2.2.1, .int v215_m_s.2.2.2.2.2.2.1, .int v215_m_s.2.2.2.2.2.2.2.1, .int v215_m_s.2.2.2.2.2.2.2.2.1, .long v215_m_s.2.2.2.2.2.2.2.2.2, g8, g9, g10, g11, g12, g13, g14, g15, g16, g17, g18, g19, g20, g21, g22])), (a1, .inl (cB23, 900, .inl v215_m_s.1))]) H := hP
                      have hD : va_D A ([(a0, .inr (9, [g3, g4, g5, g6, g7, .ref a1, .int v215_m_s.2.1, .int v215_m_s.2.2.1, .int (v215_m_s.2.2.2.1 + (1 : Int32)), .int v215_m_s.2.2.2.2.1, .int v215_m_s.2.2.2.2.2.1, .int v215_m_s.2.2.2.2.2.2.1, .int v215_m_s.2.2.2.2.2.2.2.1, .int v215_m_s.2.2.2.2.2.2.2.2.1, .long v215_m_s.2.2.2.2.2.2.2.2.2, g8, g9, g10, g11, g12, g13, g14, g15, g16, g17, g18, g19, g20, g21, g22])), (a1, .inl (cB23, 900, .inl v215_m_s.1))]) := hD
                      refine lv_goto (tgt := 173) hx hb dX12_goesOn_228 (by decide) ?_
                      exact ih173 (v173_l2 + (1 : Int32)) (v215_m_s.1, v215_m_s.2.1, v215_m_s.2.2.1, (v215_m_s.2.2.2.1 + (1 : Int32)), v215_m_s.2.2.2.2) H _ ls h  hP hD hS (lv_sub hl [0, 1] rfl)
                    refine lv_icmp_ge (tgt := 215) hx hb dX12_goesOn_189 (by decide) (fun c189 => ?_) (fun c189 => ?_)
                    · have h := (if_pos c189).symm.trans h
                      exact J215 v173_m_s H _ ls h  hP hD hS (lv_sub hl [0, 1] rfl)
                    · have h := (if_neg c189).symm.trans h
                      refine lv_aload_n hx hb dX12_goesOn_192 rfl (lv_at hl 1 rfl) ?_
                      refine lv_bipush (v := 10) hx hb dX12_goesOn_193 (by decide) ?_
                      refine lv_aload_n hx hb dX12_goesOn_195 rfl (lv_at hl 1 rfl) ?_
                      refine va_get (D := (dC, dI)) (ci := 9) (v := .int v173_m_s.2.2.2.2.2.2.1) (C := RX12) (T := TX12) (N := 30) hx hb hts ifX12_goesOn_X12 hown hK hP 0 rfl rfl 11 (by decide) (hts (.fieldLink RX12 91 "HookPierModel" "number" "I") (List.mem_of_getElem? (i := 12) rfl)) (fun _ h9 => h9) rfl dX12_goesOn_196 ?_
                      refine lv_imul hx hb dX12_goesOn_199 ?_
                      refine lv_aload_n hx hb dX12_goesOn_200 rfl (lv_at hl 1 rfl) ?_
                      refine lv_aload_n hx hb dX12_goesOn_201 rfl (lv_at hl 1 rfl) ?_
                      refine va_get (D := (dC, dI)) (ci := 9) (v := .int v173_m_s.2.2.2.1) (C := RX12) (T := TX12) (N := 30) hx hb hts ifX12_goesOn_X12 hown hK hP 0 rfl rfl 8 (by decide) (hts (.fieldLink RX12 71 "HookPierModel" "spot" "I") (List.mem_of_getElem? (i := 2) rfl)) (fun _ h9 => h9) rfl dX12_goesOn_202 ?_
                      obtain ⟨o205, eo205, h⟩ := bd_of h
                      refine cl_i (wc := ([(a0, .inr (9, [g3, g4, g5, g6, g7, .ref a1, .int v173_m_s.2.1, .int v173_m_s.2.2.1, .int v173_m_s.2.2.2.1, .int v173_m_s.2.2.2.2.1, .int v173_m_s.2.2.2.2.2.1, .int v173_m_s.2.2.2.2.2.2.1, .int v173_m_s.2.2.2.2.2.2.2.1, .int v173_m_s.2.2.2.2.2.2.2.2.1, .long v173_m_s.2.2.2.2.2.2.2.2.2, g8, g9, g10, g11, g12, g13, g14, g15, g16, g17, g18, g19, g20, g21, g22])), (a1, .inl (cB23, 900, .inl v173_m_s.1))])) (wr := []) (va_runV (As := [.int v173_m_s.2.2.2.1]) (rest := [.int ((10 : Int32) * v173_m_s.2.2.2.2.2.2.1), .ref a0]) ⟨hx, hb, hml, hown, hts⟩ (kfX12_byteAt l dC dI a0 v173_m_s.2.2.2.1 a1 v173_m_s (g3) (g4) (g5) (g6) (g7) (g8) (g9) (g10) (g11) (g12) (g13) (g14) (g15) (g16) (g17) (g18) (g19) (g20) (g21) (g22) cB23 H.size o205 eo205) (cwV 1 hts gfX12_goesOn_0 rfl rfl rfl (by decide +kernel) ⟨(Nat.le_of_ble_eq_true rfl), (Nat.le_of_ble_eq_true rfl)⟩) (PV (hP.sub (ws' := ([(a0, .inr (9, [g3, g4, g5, g6, g7, .ref a1, .int v173_m_s.2.1, .int v173_m_s.2.2.1, .int v173_m_s.2.2.2.1, .int v173_m_s.2.2.2.2.1, .int v173_m_s.2.2.2.2.2.1, .int v173_m_s.2.2.2.2.2.2.1, .int v173_m_s.2.2.2.2.2.2.2.1, .int v173_m_s.2.2.2.2.2.2.2.2.1, .long v173_m_s.2.2.2.2.2.2.2.2.2, g8, g9, g10, g11, g12, g13, g14, g15, g16, g17, g18, g19, g20, g21, g22])), (a1, .inl (cB23, 900, .inl v173_m_s.1))])) [0, 1] rfl) (hK.sub (tys' := ((cB23, .byte) :: [])) [0] rfl) (hD.sub (ws' := ([(a0, .inr (9, [g3, g4, g5, g6, g7, .ref a1, .int v173_m_s.2.1, .int v173_m_s.2.2.1, .int v173_m_s.2.2.2.1, .int v173_m_s.2.2.2.2.1, .int v173_m_s.2.2.2.2.2.1, .int v173_m_s.2.2.2.2.2.2.1, .int v173_m_s.2.2.2.2.2.2.2.1, .int v173_m_s.2.2.2.2.2.2.2.2.1, .long v173_m_s.2.2.2.2.2.2.2.2.2, g8, g9, g10, g11, g12, g13, g14, g15, g16, g17, g18, g19, g20, g21, g22])), (a1, .inl (cB23, 900, .inl v173_m_s.1))])) [0, 1] (by decide) rfl) hN 0 rfl rfl) rfl rfl hl.1 rfl (lv_room (Nat.le_of_ble_eq_true rfl)) dX12_goesOn_205 ⟨(Nat.le_of_ble_eq_true rfl), (Nat.le_of_ble_eq_true rfl)⟩) hP hD hK hS hA [0, 1] [] rfl rfl (by decide) (by decide) (fun r205 _ H locs hw hP hD _ hS => ?_)
                      obtain rfl := hw.symm
                      have hP : va_P (dC, dI) vwCl ([(a0, .inr (9, [g3, g4, g5, g6, g7, .ref a1, .int v173_m_s.2.1, .int v173_m_s.2.2.1, .int v173_m_s.2.2.2.1, .int v173_m_s.2.2.2.2.1, .int v173_m_s.2.2.2.2.2.1, .int v173_m_s.2.2.2.2.2.2.1, .int v173_m_s.2.2.2.2.2.2.2.1, .int v173_m_s.2.2.2.2.2.2.2.2.1, .long v173_m_s.2.2.2.2.2.2.2.2.2, g8, g9, g10, g11, g12, g13, g14, g15, g16, g17, g18, g19, g20, g21, g22])), (a1, .inl (cB23, 900, .inl v173_m_s.1))]) H := hP
                      have hD : va_D A ([(a0, .inr (9, [g3, g4, g5, g6, g7, .ref a1, .int v173_m_s.2.1, .int v173_m_s.2.2.1, .int v173_m_s.2.2.2.1, .int v173_m_s.2.2.2.2.1, .int v173_m_s.2.2.2.2.2.1, .int v173_m_s.2.2.2.2.2.2.1, .int v173_m_s.2.2.2.2.2.2.2.1, .int v173_m_s.2.2.2.2.2.2.2.2.1, .long v173_m_s.2.2.2.2.2.2.2.2.2, g8, g9, g10, g11, g12, g13, g14, g15, g16, g17, g18, g19, g20, g21, g22])), (a1, .inl (cB23, 900, .inl v173_m_s.1))]) := hD
                      refine lv_iadd hx hb dX12_goesOn_208 ?_
                      refine lv_bipush (v := 48) hx hb dX12_goesOn_209 (by decide) ?_
                      refine lv_isub hx hb dX12_goesOn_211 ?_
                      refine lv_topi (fun z211 ez211 => ?_)
                      have h := nm_of h z211 ez211
                      refine va_put (D := (dC, dI)) (ci := 9) (v := .int z211) (ty := .int) (C := RX12) (T := TX12) (N := 30) hx hb hts ifX12_goesOn_X12 tyX12 tyX12_ok nmX12 hown hK hP hD hS 0 rfl rfl 11 (by decide) (hts (.fieldLink RX12 91 "HookPierModel" "number" "I") (List.mem_of_getElem? (i := 12) rfl)) (fun _ h9 => h9) rfl (by decide +kernel) rfl rfl (Nat.le_of_ble_eq_true rfl) dX12_goesOn_212 (fun H locs hP hD hS => ?_)
                      have hP : va_P (dC, dI) vwCl ([(a0, .inr (9, [g3, g4, g5, g6, g7, .ref a1, .int v173_m_s.2.1, .int v173_m_s.2.2.1, .int v173_m_s.2.2.2.1, .int v173_m_s.2.2.2.2.1, .int v173_m_s.2.2.2.2.2.1, .int z211, .int v173_m_s.2.2.2.2.2.2.2.1, .int v173_m_s.2.2.2.2.2.2.2.2.1, .long v173_m_s.2.2.2.2.2.2.2.2.2, g8, g9, g10, g11, g12, g13, g14, g15, g16, g17, g18, g19, g20, g21, g22])), (a1, .inl (cB23, 900, .inl v173_m_s.1))]) H := hP
                      have hD : va_D A ([(a0, .inr (9, [g3, g4, g5, g6, g7, .ref a1, .int v173_m_s.2.1, .int v173_m_s.2.2.1, .int v173_m_s.2.2.2.1, .int v173_m_s.2.2.2.2.1, .int v173_m_s.2.2.2.2.2.1, .int z211, .int v173_m_s.2.2.2.2.2.2.2.1, .int v173_m_s.2.2.2.2.2.2.2.2.1, .long v173_m_s.2.2.2.2.2.2.2.2.2, g8, g9, g10, g11, g12, g13, g14, g15, g16, g17, g18, g19, g20, g21, g22])), (a1, .inl (cB23, 900, .inl v173_m_s.1))]) := hD
                      exact J215 (v173_m_s.1, v173_m_s.2.1, v173_m_s.2.2.1, v173_m_s.2.2.2.1, v173_m_s.2.2.2.2.1, v173_m_s.2.2.2.2.2.1, z211, v173_m_s.2.2.2.2.2.2.2) H _ ls h  hP hD hS (lv_sub hl [0, 1] rfl)
              exact L173 FU (0 : Int32) (v9_m_s.1, v9_m_s.2.1, v9_m_s.2.2.1, v9_m_s.2.2.2.1, (0 : Int32), v9_m_s.2.2.2.1, (0 : Int32), v9_m_s.2.2.2.2.2.2.2) H _ ls h  hP hD hS (lv_sub hl [0, 2] rfl)
          · have h := (if_neg c76).symm.trans h
            refine lv_aload_n hx hb dX12_goesOn_79 rfl (lv_at hl 2 rfl) ?_
            refine lv_lconst (v := 0) hx hb dX12_goesOn_80 (by decide) ?_
            refine va_put (D := (dC, dI)) (ci := 9) (v := .long 0) (ty := .long) (C := RX12) (T := TX12) (N := 30) hx hb hts ifX12_goesOn_X12 tyX12 tyX12_ok nmX12 hown hK hP hD hS 0 rfl rfl 14 (by decide) (hts (.fieldLink RX12 84 "HookPierModel" "word" "J") (List.mem_of_getElem? (i := 13) rfl)) (fun _ h9 => h9) rfl (by decide +kernel) rfl rfl (Nat.le_of_ble_eq_true rfl) dX12_goesOn_81 (fun H locs hP hD hS => ?_)
            have hP : va_P (dC, dI) vwCl ([(a0, .inr (9, [g3, g4, g5, g6, g7, .ref a1, .int v9_m_s.2.1, .int v9_m_s.2.2.1, .int v9_m_s.2.2.2.1, .int 0, .int v9_m_s.2.2.2.1, .int v9_m_s.2.2.2.2.2.2.1, .int v9_m_s.2.2.2.2.2.2.2.1, .int v9_m_s.2.2.2.2.2.2.2.2.1, .long 0, g8, g9, g10, g11, g12, g13, g14, g15, g16, g17, g18, g19, g20, g21, g22])), (a1, .inl (cB23, 900, .inl v9_m_s.1))]) H := hP
            have hD : va_D A ([(a0, .inr (9, [g3, g4, g5, g6, g7, .ref a1, .int v9_m_s.2.1, .int v9_m_s.2.2.1, .int v9_m_s.2.2.2.1, .int 0, .int v9_m_s.2.2.2.1, .int v9_m_s.2.2.2.2.2.2.1, .int v9_m_s.2.2.2.2.2.2.2.1, .int v9_m_s.2.2.2.2.2.2.2.2.1, .long 0, g8, g9, g10, g11, g12, g13, g14, g15, g16, g17, g18, g19, g20, g21, g22])), (a1, .inl (cB23, 900, .inl v9_m_s.1))]) := hD
            have L84 : ∀ (n84 : Nat) (v84_l2 : Int32) (v84_m_s : TX12_s) (H : Heap) (locs : List Loc) (ls : Array Slot), f_X12_goesOn_L84 n84 v84_l2 v84_m_s = some out → va_P (dC, dI) vwCl ([(a0, .inr (9, [g3, g4, g5, g6, g7, .ref a1, .int v84_m_s.2.1, .int v84_m_s.2.2.1, .int v84_m_s.2.2.2.1, .int v84_m_s.2.2.2.2.1, .int v84_m_s.2.2.2.2.2.1, .int v84_m_s.2.2.2.2.2.2.1, .int v84_m_s.2.2.2.2.2.2.2.1, .int v84_m_s.2.2.2.2.2.2.2.2.1, .long v84_m_s.2.2.2.2.2.2.2.2.2, g8, g9, g10, g11, g12, g13, g14, g15, g16, g17, g18, g19, g20, g21, g22])), (a1, .inl (cB23, 900, .inl v84_m_s.1))]) H → va_D A ([(a0, .inr (9, [g3, g4, g5, g6, g7, .ref a1, .int v84_m_s.2.1, .int v84_m_s.2.2.1, .int v84_m_s.2.2.2.1, .int v84_m_s.2.2.2.2.1, .int v84_m_s.2.2.2.2.2.1, .int v84_m_s.2.2.2.2.2.2.1, .int v84_m_s.2.2.2.2.2.2.2.1, .int v84_m_s.2.2.2.2.2.2.2.2.1, .long v84_m_s.2.2.2.2.2.2.2.2.2, g8, g9, g10, g11, g12, g13, g14, g15, g16, g17, g18, g19, g20, g21, g22])), (a1, .inl (cB23, 900, .inl v84_m_s.1))]) → va_S A s.heap H locs → lv_has ls 3 [(2, .int v84_l2), (0, .ref a0)] → W p l e (headSpec vfX12_goesOn { frames := 1, cells := 0, slots := 0, locals := 21 }).room s m ([.ref a0]).toArray below meth c H locs 0 0 QQ (F0 m 84 ls []) := by
              intro n84
              induction n84 with
              | zero =>
                intro v84_l2 v84_m_s H locs ls h  _ _ _ _
                rw [f_X12_goesOn_L84] at h
                cases h
              | succ n84 ih84 =>
                intro v84_l2 v84_m_s H locs ls h  hP hD hS hl
                rw [f_X12_goesOn_L84] at h
                refine lv_aload_n hx hb dX12_goesOn_84 rfl (lv_at hl 1 rfl) ?_
                refine lv_aload_n hx hb dX12_goesOn_85 rfl (lv_at hl 1 rfl) ?_
                refine va_get (D := (dC, dI)) (ci := 9) (v := .int v84_m_s.2.2.2.1) (C := RX12) (T := TX12) (N := 30) hx hb hts ifX12_goesOn_X12 hown hK hP 0 rfl rfl 8 (by decide) (hts (.fieldLink RX12 71 "HookPierModel" "spot" "I") (List.mem_of_getElem? (i := 2) rfl)) (fun _ h9 => h9) rfl dX12_goesOn_86 ?_
                obtain ⟨o89, eo89, h⟩ := bd_of h
                refine cl_i (wc := ([(a0, .inr (9, [g3, g4, g5, g6, g7, .ref a1, .int v84_m_s.2.1, .int v84_m_s.2.2.1, .int v84_m_s.2.2.2.1, .int v84_m_s.2.2.2.2.1, .int v84_m_s.2.2.2.2.2.1, .int v84_m_s.2.2.2.2.2.2.1, .int v84_m_s.2.2.2.2.2.2.2.1, .int v84_m_s.2.2.2.2.2.2.2.2.1, .long v84_m_s.2.2.2.2.2.2.2.2.2, g8, g9, g10, g11, g12, g13, g14, g15, g16, g17, g18, g19, g20, g21, g22])), (a1, .inl (cB23, 900, .inl v84_m_s.1))])) (wr := []) (va_runV (As := [.int v84_m_s.2.2.2.1]) (rest := []) ⟨hx, hb, hml, hown, hts⟩ (kfX12_byteAt l dC dI a0 v84_m_s.2.2.2.1 a1 v84_m_s (g3) (g4) (g5) (g6) (g7) (g8) (g9) (g10) (g11) (g12) (g13) (g14) (g15) (g16) (g17) (g18) (g19) (g20) (g21) (g22) cB23 H.size o89 eo89) (cwV 1 hts gfX12_goesOn_0 rfl rfl rfl (by decide +kernel) ⟨(Nat.le_of_ble_eq_true rfl), (Nat.le_of_ble_eq_true rfl)⟩) (PV (hP.sub (ws' := ([(a0, .inr (9, [g3, g4, g5, g6, g7, .ref a1, .int v84_m_s.2.1, .int v84_m_s.2.2.1, .int v84_m_s.2.2.2.1, .int v84_m_s.2.2.2.2.1, .int v84_m_s.2.2.2.2.2.1, .int v84_m_s.2.2.2.2.2.2.1, .int v84_m_s.2.2.2.2.2.2.2.1, .int v84_m_s.2.2.2.2.2.2.2.2.1, .long v84_m_s.2.2.2.2.2.2.2.2.2, g8, g9, g10, g11, g12, g13, g14, g15, g16, g17, g18, g19, g20, g21, g22])), (a1, .inl (cB23, 900, .inl v84_m_s.1))])) [0, 1] rfl) (hK.sub (tys' := ((cB23, .byte) :: [])) [0] rfl) (hD.sub (ws' := ([(a0, .inr (9, [g3, g4, g5, g6, g7, .ref a1, .int v84_m_s.2.1, .int v84_m_s.2.2.1, .int v84_m_s.2.2.2.1, .int v84_m_s.2.2.2.2.1, .int v84_m_s.2.2.2.2.2.1, .int v84_m_s.2.2.2.2.2.2.1, .int v84_m_s.2.2.2.2.2.2.2.1, .int v84_m_s.2.2.2.2.2.2.2.2.1, .long v84_m_s.2.2.2.2.2.2.2.2.2, g8, g9, g10, g11, g12, g13, g14, g15, g16, g17, g18, g19, g20, g21, g22])), (a1, .inl (cB23, 900, .inl v84_m_s.1))])) [0, 1] (by decide) rfl) hN 0 rfl rfl) rfl rfl hl.1 rfl (lv_room (Nat.le_of_ble_eq_true rfl)) dX12_goesOn_89 ⟨(Nat.le_of_ble_eq_true rfl), (Nat.le_of_ble_eq_true rfl)⟩) hP hD hK hS hA [0, 1] [] rfl rfl (by decide) (by decide) (fun r89 _ H locs hw hP hD _ hS => ?_)
                obtain rfl := hw.symm
                have hP : va_P (dC, dI) vwCl ([(a0, .inr (9, [g3, g4, g5, g6, g7, .ref a1, .int v84_m_s.2.1, .int v84_m_s.2.2.1, .int v84_m_s.2.2.2.1, .int v84_m_s.2.2.2.2.1, .int v84_m_s.2.2.2.2.2.1, .int v84_m_s.2.2.2.2.2.2.1, .int v84_m_s.2.2.2.2.2.2.2.1, .int v84_m_s.2.2.2.2.2.2.2.2.1, .long v84_m_s.2.2.2.2.2.2.2.2.2, g8, g9, g10, g11, g12, g13, g14, g15, g16, g17, g18, g19, g20, g21, g22])), (a1, .inl (cB23, 900, .inl v84_m_s.1))]) H := hP
                have hD : va_D A ([(a0, .inr (9, [g3, g4, g5, g6, g7, .ref a1, .int v84_m_s.2.1, .int v84_m_s.2.2.1, .int v84_m_s.2.2.2.1, .int v84_m_s.2.2.2.2.1, .int v84_m_s.2.2.2.2.2.1, .int v84_m_s.2.2.2.2.2.2.1, .int v84_m_s.2.2.2.2.2.2.2.1, .int v84_m_s.2.2.2.2.2.2.2.2.1, .long v84_m_s.2.2.2.2.2.2.2.2.2, g8, g9, g10, g11, g12, g13, g14, g15, g16, g17, g18, g19, g20, g21, g22])), (a1, .inl (cB23, 900, .inl v84_m_s.1))]) := hD
                obtain ⟨o92, eo92⟩ : ∃ o, o = f_X12_isLetter o89 := ⟨_, rfl⟩
                have h := nm_of h o92 eo92
                refine cl_i (wc := []) (wr := ([(a0, .inr (9, [g3, g4, g5, g6, g7, .ref a1, .int v84_m_s.2.1, .int v84_m_s.2.2.1, .int v84_m_s.2.2.2.1, .int v84_m_s.2.2.2.2.1, .int v84_m_s.2.2.2.2.2.1, .int v84_m_s.2.2.2.2.2.2.1, .int v84_m_s.2.2.2.2.2.2.2.1, .int v84_m_s.2.2.2.2.2.2.2.2.1, .long v84_m_s.2.2.2.2.2.2.2.2.2, g8, g9, g10, g11, g12, g13, g14, g15, g16, g17, g18, g19, g20, g21, g22])), (a1, .inl (cB23, 900, .inl v84_m_s.1))])) (va_runS (As := [.int o89]) (rest := []) ⟨hx, hb, hml, hown, hts⟩ (kfX12_isLetter l dC dI o89 H.size o92 eo92.symm) (va_cwS 1 hts gfX12_goesOn_1 rfl rfl rfl (by decide +kernel) ⟨(Nat.le_of_ble_eq_true rfl), (Nat.le_of_ble_eq_true rfl)⟩) (PS (hP.sub (ws' := []) [] rfl) (hK.sub (tys' := ([])) [] rfl) (hD.sub (ws' := []) [] (by decide) rfl) hN) rfl rfl hl.1 rfl (lv_room (Nat.le_of_ble_eq_true rfl)) dX12_goesOn_92 ⟨(Nat.le_of_ble_eq_true rfl), (Nat.le_of_ble_eq_true rfl)⟩) hP hD hK hS hA [] [0, 1] rfl rfl (by decide) (by decide) (fun r92 _ H locs hw hP hD _ hS => ?_)
                obtain ⟨hw, br92⟩ := hw
                obtain rfl := hw.symm
                have hP : va_P (dC, dI) vwCl ([(a0, .inr (9, [g3, g4, g5, g6, g7, .ref a1, .int v84_m_s.2.1, .int v84_m_s.2.2.1, .int v84_m_s.2.2.2.1, .int v84_m_s.2.2.2.2.1, .int v84_m_s.2.2.2.2.2.1, .int v84_m_s.2.2.2.2.2.2.1, .int v84_m_s.2.2.2.2.2.2.2.1, .int v84_m_s.2.2.2.2.2.2.2.2.1, .long v84_m_s.2.2.2.2.2.2.2.2.2, g8, g9, g10, g11, g12, g13, g14, g15, g16, g17, g18, g19, g20, g21, g22])), (a1, .inl (cB23, 900, .inl v84_m_s.1))]) H := hP
                have hD : va_D A ([(a0, .inr (9, [g3, g4, g5, g6, g7, .ref a1, .int v84_m_s.2.1, .int v84_m_s.2.2.1, .int v84_m_s.2.2.2.1, .int v84_m_s.2.2.2.2.1, .int v84_m_s.2.2.2.2.2.1, .int v84_m_s.2.2.2.2.2.2.1, .int v84_m_s.2.2.2.2.2.2.2.1, .int v84_m_s.2.2.2.2.2.2.2.2.1, .long v84_m_s.2.2.2.2.2.2.2.2.2, g8, g9, g10, g11, g12, g13, g14, g15, g16, g17, g18, g19, g20, g21, g22])), (a1, .inl (cB23, 900, .inl v84_m_s.1))]) := hD
                refine lv_if_eq (tgt := 147) hx hb dX12_goesOn_95 (by decide) (fun c95 => ?_) (fun c95 => ?_)
                · have h := (if_pos c95).symm.trans h
                  refine lv_iload_n hx hb dX12_goesOn_147 rfl (lv_at hl 0 rfl) ?_
                  refine lv_bipush (v := 8) hx hb dX12_goesOn_148 (by decide) ?_
                  refine lv_icmp_gt (tgt := 265) hx hb dX12_goesOn_150 (by decide) (fun c150 => ?_) (fun c150 => ?_)
                  · have h := (if_pos c150).symm.trans h
                    obtain rfl := Option.some.inj h
                    have hP9 := hP.sub (ws' := ([(a0, .inr (9, [g3, g4, g5, g6, g7, .ref a1, .int v84_m_s.2.1, .int v84_m_s.2.2.1, .int v84_m_s.2.2.2.1, .int v84_m_s.2.2.2.2.1, .int v84_m_s.2.2.2.2.2.1, .int v84_m_s.2.2.2.2.2.2.1, .int v84_m_s.2.2.2.2.2.2.2.1, .int v84_m_s.2.2.2.2.2.2.2.2.1, .long v84_m_s.2.2.2.2.2.2.2.2.2, g8, g9, g10, g11, g12, g13, g14, g15, g16, g17, g18, g19, g20, g21, g22])), (a1, .inl (cB23, 900, .inl v84_m_s.1))])) [0, 1] rfl
                    have hD9 := hD.sub (ws' := ([(a0, .inr (9, [g3, g4, g5, g6, g7, .ref a1, .int v84_m_s.2.1, .int v84_m_s.2.2.1, .int v84_m_s.2.2.2.1, .int v84_m_s.2.2.2.2.1, .int v84_m_s.2.2.2.2.2.1, .int v84_m_s.2.2.2.2.2.2.1, .int v84_m_s.2.2.2.2.2.2.2.1, .int v84_m_s.2.2.2.2.2.2.2.2.1, .long v84_m_s.2.2.2.2.2.2.2.2.2, g8, g9, g10, g11, g12, g13, g14, g15, g16, g17, g18, g19, g20, g21, g22])), (a1, .inl (cB23, 900, .inl v84_m_s.1))])) [0, 1] (by decide) rfl
                    have hK9 := hK.sub (tys' := []) [] rfl
                    rw [hQQ]
                    exact W.vret hx hb hr (fun t ht hW => ⟨⟨(), rfl, trivial, by rw [ht]; exact hP9, va_K.moved hW.alike hK9, hD9⟩, hS.F ht⟩) hS.2.2 dX12_goesOn_265
                  · have h := (if_neg c150).symm.trans h
                    refine lv_aload_n hx hb dX12_goesOn_153 rfl (lv_at hl 1 rfl) ?_
                    refine lv_iconst (v := 2) hx hb dX12_goesOn_154 (by decide) ?_
                    refine va_put (D := (dC, dI)) (ci := 9) (v := .int 2) (ty := .int) (C := RX12) (T := TX12) (N := 30) hx hb hts ifX12_goesOn_X12 tyX12 tyX12_ok nmX12 hown hK hP hD hS 0 rfl rfl 9 (by decide) (hts (.fieldLink RX12 68 "HookPierModel" "sort" "I") (List.mem_of_getElem? (i := 1) rfl)) (fun _ h9 => h9) rfl (by decide +kernel) rfl rfl (Nat.le_of_ble_eq_true rfl) dX12_goesOn_155 (fun H locs hP hD hS => ?_)
                    have hP : va_P (dC, dI) vwCl ([(a0, .inr (9, [g3, g4, g5, g6, g7, .ref a1, .int v84_m_s.2.1, .int v84_m_s.2.2.1, .int v84_m_s.2.2.2.1, .int 2, .int v84_m_s.2.2.2.2.2.1, .int v84_m_s.2.2.2.2.2.2.1, .int v84_m_s.2.2.2.2.2.2.2.1, .int v84_m_s.2.2.2.2.2.2.2.2.1, .long v84_m_s.2.2.2.2.2.2.2.2.2, g8, g9, g10, g11, g12, g13, g14, g15, g16, g17, g18, g19, g20, g21, g22])), (a1, .inl (cB23, 900, .inl v84_m_s.1))]) H := hP
                    have hD : va_D A ([(a0, .inr (9, [g3, g4, g5, g6, g7, .ref a1, .int v84_m_s.2.1, .int v84_m_s.2.2.1, .int v84_m_s.2.2.2.1, .int 2, .int v84_m_s.2.2.2.2.2.1, .int v84_m_s.2.2.2.2.2.2.1, .int v84_m_s.2.2.2.2.2.2.2.1, .int v84_m_s.2.2.2.2.2.2.2.2.1, .long v84_m_s.2.2.2.2.2.2.2.2.2, g8, g9, g10, g11, g12, g13, g14, g15, g16, g17, g18, g19, g20, g21, g22])), (a1, .inl (cB23, 900, .inl v84_m_s.1))]) := hD
                    refine lv_goto (tgt := 265) hx hb dX12_goesOn_158 (by decide) ?_
                    obtain rfl := Option.some.inj h
                    have hP9 := hP.sub (ws' := ([(a0, .inr (9, [g3, g4, g5, g6, g7, .ref a1, .int v84_m_s.2.1, .int v84_m_s.2.2.1, .int v84_m_s.2.2.2.1, .int 2, .int v84_m_s.2.2.2.2.2.1, .int v84_m_s.2.2.2.2.2.2.1, .int v84_m_s.2.2.2.2.2.2.2.1, .int v84_m_s.2.2.2.2.2.2.2.2.1, .long v84_m_s.2.2.2.2.2.2.2.2.2, g8, g9, g10, g11, g12, g13, g14, g15, g16, g17, g18, g19, g20, g21, g22])), (a1, .inl (cB23, 900, .inl v84_m_s.1))])) [0, 1] rfl
                    have hD9 := hD.sub (ws' := ([(a0, .inr (9, [g3, g4, g5, g6, g7, .ref a1, .int v84_m_s.2.1, .int v84_m_s.2.2.1, .int v84_m_s.2.2.2.1, .int 2, .int v84_m_s.2.2.2.2.2.1, .int v84_m_s.2.2.2.2.2.2.1, .int v84_m_s.2.2.2.2.2.2.2.1, .int v84_m_s.2.2.2.2.2.2.2.2.1, .long v84_m_s.2.2.2.2.2.2.2.2.2, g8, g9, g10, g11, g12, g13, g14, g15, g16, g17, g18, g19, g20, g21, g22])), (a1, .inl (cB23, 900, .inl v84_m_s.1))])) [0, 1] (by decide) rfl
                    have hK9 := hK.sub (tys' := []) [] rfl
                    rw [hQQ]
                    exact W.vret hx hb hr (fun t ht hW => ⟨⟨(), rfl, trivial, by rw [ht]; exact hP9, va_K.moved hW.alike hK9, hD9⟩, hS.F ht⟩) hS.2.2 dX12_goesOn_265
                · have h := (if_neg c95).symm.trans h
                  refine lv_iload_n hx hb dX12_goesOn_98 rfl (lv_at hl 0 rfl) ?_
                  refine lv_bipush (v := 8) hx hb dX12_goesOn_99 (by decide) ?_
                  have J131 : ∀ (v131_m_s : TX12_s) (H : Heap) (locs : List Loc) (ls : Array Slot), f_X12_goesOn_J131 (f_X12_goesOn_L84 n84) v84_l2 v131_m_s = some out → va_P (dC, dI) vwCl ([(a0, .inr (9, [g3, g4, g5, g6, g7, .ref a1, .int v131_m_s.2.1, .int v131_m_s.2.2.1, .int v131_m_s.2.2.2.1, .int v131_m_s.2.2.2.2.1, .int v131_m_s.2.2.2.2.2.1, .int v131_m_s.2.2.2.2.2.2.1, .int v131_m_s.2.2.2.2.2.2.2.1, .int v131_m_s.2.2.2.2.2.2.2.2.1, .long v131_m_s.2.2.2.2.2.2.2.2.2, g8, g9, g10, g11, g12, g13, g14, g15, g16, g17, g18, g19, g20, g21, g22])), (a1, .inl (cB23, 900, .inl v131_m_s.1))]) H → va_D A ([(a0, .inr (9, [g3, g4, g5, g6, g7, .ref a1, .int v131_m_s.2.1, .int v131_m_s.2.2.1, .int v131_m_s.2.2.2.1, .int v131_m_s.2.2.2.2.1, .int v131_m_s.2.2.2.2.2.1, .int v131_m_s.2.2.2.2.2.2.1, .int v131_m_s.2.2.2.2.2.2.2.1, .int v131_m_s.2.2.2.2.2.2.2.2.1, .long v131_m_s.2.2.2.2.2.2.2.2.2, g8, g9, g10, g11, g12, g13, g14, g15, g16, g17, g18, g19, g20, g21, g22])), (a1, .inl (cB23, 900, .inl v131_m_s.1))]) → va_S A s.heap H locs → lv_has ls 3 [(2, .int v84_l2), (0, .ref a0)] → W p l e (headSpec vfX12_goesOn { frames := 1, cells := 0, slots := 0, locals := 21 }).room s m ([.ref a0]).toArray below meth c H locs 0 0 QQ (F0 m 131 ls []) := by
                    intro v131_m_s H locs ls h  hP hD hS hl
                    rw [f_X12_goesOn_J131] at h
                    refine lv_iinc (v := (v84_l2 + (1 : Int32))) (lv' := [(2, .int (v84_l2 + (1 : Int32))), (0, .ref a0)]) hx hb dX12_goesOn_131 hl (k := 0) rfl rfl (by decide) rfl (fun ls hl => ?_)
                    refine lv_aload_n hx hb dX12_goesOn_134 rfl (lv_at hl 1 rfl) ?_
                    refine lv_dup hx hb dX12_goesOn_135 rfl ?_
                    refine va_get (D := (dC, dI)) (ci := 9) (v := .int v131_m_s.2.2.2.1) (C := RX12) (T := TX12) (N := 30) hx hb hts ifX12_goesOn_X12 hown hK hP 0 rfl rfl 8 (by decide) (hts (.fieldLink RX12 71 "HookPierModel" "spot" "I") (List.mem_of_getElem? (i := 2) rfl)) (fun _ h9 => h9) rfl dX12_goesOn_136 ?_
                    refine lv_iconst (v := 1) hx hb dX12_goesOn_139 (by decide) ?_
                    refine lv_iadd hx hb dX12_goesOn_140 ?_
                    refine va_put (D := (dC, dI)) (ci := 9) (v := .int (v131_m_s.2.2.2.1 + (1 : Int32))) (ty := .int) (C := RX12) (T := TX12) (N := 30) hx hb hts ifX12_goesOn_X12 tyX12 tyX12_ok nmX12 hown hK hP hD hS 0 rfl rfl 8 (by decide) (hts (.fieldLink RX12 71 "HookPierModel" "spot" "I") (List.mem_of_getElem? (i := 2) rfl)) (fun _ h9 => h9) rfl (by decide +kernel) rfl rfl (Nat.le_of_ble_eq_true rfl) dX12_goesOn_141 (fun H locs hP hD hS => ?_)
                    have hP : va_P (dC, dI) vwCl ([(a0, .inr (9, [g3, g4, g5, g6, g7, .ref a1, .int v131_m_s.2.1, .int v131_m_s.2.2.1, .int (v131_m_s.2.2.2.1 + (1 : Int32)), .int v131_m_s.2.2.2.2.1, .int v131_m_s.2.2.2.2.2.1, .int v131_m_s.2.2.2.2.2.2.1, .int v131_m_s.2.2.2.2.2.2.2.1, .int v131_m_s.2.2.2.2.2.2.2.2.1, .long v131_m_s.2.2.2.2.2.2.2.2.2, g8, g9, g10, g11, g12, g13, g14, g15, g16, g17, g18, g19, g20, g21, g22])), (a1, .inl (cB23, 900, .inl v131_m_s.1))]) H := hP
                    have hD : va_D A ([(a0, .inr (9, [g3, g4, g5, g6, g7, .ref a1, .int v131_m_s.2.1, .int v131_m_s.2.2.1, .int (v131_m_s.2.2.2.1 + (1 : Int32)), .int v131_m_s.2.2.2.2.1, .int v131_m_s.2.2.2.2.2.1, .int v131_m_s.2.2.2.2.2.2.1, .int v131_m_s.2.2.2.2.2.2.2.1, .int v131_m_s.2.2.2.2.2.2.2.2.1, .long v131_m_s.2.2.2.2.2.2.2.2.2, g8, g9, g10, g11, g12, g13, g14, g15, g16, g17, g18, g19, g20, g21, g22])), (a1, .inl (cB23, 900, .inl v131_m_s.1))]) := hD
                    refine lv_goto (tgt := 84) hx hb dX12_goesOn_144 (by decide) ?_
                    exact ih84 (v84_l2 + (1 : Int32)) (v131_m_s.1, v131_m_s.2.1, v131_m_s.2.2.1, (v131_m_s.2.2.2.1 + (1 : Int32)), v131_m_s.2.2.2.2) H _ ls h  hP hD hS (lv_sub hl [0, 1] rfl)
                  refine lv_icmp_ge (tgt := 131) hx hb dX12_goesOn_101 (by decide) (fun c101 => ?_) (fun c101 => ?_)
                  · have h := (if_pos c101).symm.trans h
                    exact J131 v84_m_s H _ ls h  hP hD hS (lv_sub hl [0, 1] rfl)
                  · have h := (if_neg c101).symm.trans h
                    refine lv_aload_n hx hb dX12_goesOn_104 rfl (lv_at hl 1 rfl) ?_
                    refine lv_ldc2 hx hb hown (hts (.constantLong RX12 62 (32)) (List.mem_of_getElem? (i := 14) rfl)) dX12_goesOn_105 ?_
                    refine lv_aload_n hx hb dX12_goesOn_108 rfl (lv_at hl 1 rfl) ?_
                    refine va_get (D := (dC, dI)) (ci := 9) (v := .long v84_m_s.2.2.2.2.2.2.2.2.2) (C := RX12) (T := TX12) (N := 30) hx hb hts ifX12_goesOn_X12 hown hK hP 0 rfl rfl 14 (by decide) (hts (.fieldLink RX12 84 "HookPierModel" "word" "J") (List.mem_of_getElem? (i := 13) rfl)) (fun _ h9 => h9) rfl dX12_goesOn_109 ?_
                    refine lv_lmul hx hb dX12_goesOn_112 ?_
                    refine lv_aload_n hx hb dX12_goesOn_113 rfl (lv_at hl 1 rfl) ?_
                    refine lv_aload_n hx hb dX12_goesOn_114 rfl (lv_at hl 1 rfl) ?_
                    refine va_get (D := (dC, dI)) (ci := 9) (v := .int v84_m_s.2.2.2.1) (C := RX12) (T := TX12) (N := 30) hx hb hts ifX12_goesOn_X12 hown hK hP 0 rfl rfl 8 (by decide) (hts (.fieldLink RX12 71 "HookPierModel" "spot" "I") (List.mem_of_getElem? (i := 2) rfl)) (fun _ h9 => h9) rfl dX12_goesOn_115 ?_
                    obtain ⟨o118, eo118, h⟩ := bd_of h
                    refine cl_i (wc := ([(a0, .inr (9, [g3, g4, g5, g6, g7, .ref a1, .int v84_m_s.2.1, .int v84_m_s.2.2.1, .int v84_m_s.2.2.2.1, .int v84_m_s.2.2.2.2.1, .int v84_m_s.2.2.2.2.2.1, .int v84_m_s.2.2.2.2.2.2.1, .int v84_m_s.2.2.2.2.2.2.2.1, .int v84_m_s.2.2.2.2.2.2.2.2.1, .long v84_m_s.2.2.2.2.2.2.2.2.2, g8, g9, g10, g11, g12, g13, g14, g15, g16, g17, g18, g19, g20, g21, g22])), (a1, .inl (cB23, 900, .inl v84_m_s.1))])) (wr := []) (va_runV (As := [.int v84_m_s.2.2.2.1]) (rest := [.long ((32 : Int64) * v84_m_s.2.2.2.2.2.2.2.2.2), .ref a0]) ⟨hx, hb, hml, hown, hts⟩ (kfX12_byteAt l dC dI a0 v84_m_s.2.2.2.1 a1 v84_m_s (g3) (g4) (g5) (g6) (g7) (g8) (g9) (g10) (g11) (g12) (g13) (g14) (g15) (g16) (g17) (g18) (g19) (g20) (g21) (g22) cB23 H.size o118 eo118) (cwV 1 hts gfX12_goesOn_0 rfl rfl rfl (by decide +kernel) ⟨(Nat.le_of_ble_eq_true rfl), (Nat.le_of_ble_eq_true rfl)⟩) (PV (hP.sub (ws' := ([(a0, .inr (9, [g3, g4, g5, g6, g7, .ref a1, .int v84_m_s.2.1, .int v84_m_s.2.2.1, .int v84_m_s.2.2.2.1, .int v84_m_s.2.2.2.2.1, .int v84_m_s.2.2.2.2.2.1, .int v84_m_s.2.2.2.2.2.2.1, .int v84_m_s.2.2.2.2.2.2.2.1, .int v84_m_s.2.2.2.2.2.2.2.2.1, .long v84_m_s.2.2.2.2.2.2.2.2.2, g8, g9, g10, g11, g12, g13, g14, g15, g16, g17, g18, g19, g20, g21, g22])), (a1, .inl (cB23, 900, .inl v84_m_s.1))])) [0, 1] rfl) (hK.sub (tys' := ((cB23, .byte) :: [])) [0] rfl) (hD.sub (ws' := ([(a0, .inr (9, [g3, g4, g5, g6, g7, .ref a1, .int v84_m_s.2.1, .int v84_m_s.2.2.1, .int v84_m_s.2.2.2.1, .int v84_m_s.2.2.2.2.1, .int v84_m_s.2.2.2.2.2.1, .int v84_m_s.2.2.2.2.2.2.1, .int v84_m_s.2.2.2.2.2.2.2.1, .int v84_m_s.2.2.2.2.2.2.2.2.1, .long v84_m_s.2.2.2.2.2.2.2.2.2, g8, g9, g10, g11, g12, g13, g14, g15, g16, g17, g18, g19, g20, g21, g22])), (a1, .inl (cB23, 900, .inl v84_m_s.1))])) [0, 1] (by decide) rfl) hN 0 rfl rfl) rfl rfl hl.1 rfl (lv_room (Nat.le_of_ble_eq_true rfl)) dX12_goesOn_118 ⟨(Nat.le_of_ble_eq_true rfl), (Nat.le_of_ble_eq_true rfl)⟩) hP hD hK hS hA [0, 1] [] rfl rfl (by decide) (by decide) (fun r118 _ H locs hw hP hD _ hS => ?_)
                    obtain rfl := hw.symm
                    have hP : va_P (dC, dI) vwCl ([(a0, .inr (9, [g3, g4, g5, g6, g7, .ref a1, .int v84_m_s.2.1, .int v84_m_s.2.2.1, .int v84_m_s.2.2.2.1, .int v84_m_s.2.2.2.2.1, .int v84_m_s.2.2.2.2.2.1, .int v84_m_s.2.2.2.2.2.2.1, .int v84_m_s.2.2.2.2.2.2.2.1, .int v84_m_s.2.2.2.2.2.2.2.2.1, .long v84_m_s.2.2.2.2.2.2.2.2.2, g8, g9, g10, g11, g12, g13, g14, g15, g16, g17, g18, g19, g20, g21, g22])), (a1, .inl (cB23, 900, .inl v84_m_s.1))]) H := hP
                    have hD : va_D A ([(a0, .inr (9, [g3, g4, g5, g6, g7, .ref a1, .int v84_m_s.2.1, .int v84_m_s.2.2.1, .int v84_m_s.2.2.2.1, .int v84_m_s.2.2.2.2.1, .int v84_m_s.2.2.2.2.2.1, .int v84_m_s.2.2.2.2.2.2.1, .int v84_m_s.2.2.2.2.2.2.2.1, .int v84_m_s.2.2.2.2.2.2.2.2.1, .long v84_m_s.2.2.2.2.2.2.2.2.2, g8, g9, g10, g11, g12, g13, g14, g15, g16, g17, g18, g19, g20, g21, g22])), (a1, .inl (cB23, 900, .inl v84_m_s.1))]) := hD
                    refine lv_bipush (v := 97) hx hb dX12_goesOn_121 (by decide) ?_
                    refine lv_isub hx hb dX12_goesOn_123 ?_
                    refine lv_iconst (v := 1) hx hb dX12_goesOn_124 (by decide) ?_
                    refine lv_iadd hx hb dX12_goesOn_125 ?_
                    refine lv_i2l hx hb dX12_goesOn_126 rfl ?_
                    refine lv_ladd hx hb dX12_goesOn_127 ?_
                    refine lv_topl (fun z127 ez127 => ?_)
                    have h := nm_of h z127 ez127
                    refine va_put (D := (dC, dI)) (ci := 9) (v := .long z127) (ty := .long) (C := RX12) (T := TX12) (N := 30) hx hb hts ifX12_goesOn_X12 tyX12 tyX12_ok nmX12 hown hK hP hD hS 0 rfl rfl 14 (by decide) (hts (.fieldLink RX12 84 "HookPierModel" "word" "J") (List.mem_of_getElem? (i := 13) rfl)) (fun _ h9 => h9) rfl (by decide +kernel) rfl rfl (Nat.le_of_ble_eq_true rfl) dX12_goesOn_128 (fun H locs hP hD hS => ?_)
                    have hP : va_P (dC, dI) vwCl ([(a0, .inr (9, [g3, g4, g5, g6, g7, .ref a1, .int v84_m_s.2.1, .int v84_m_s.2.2.1, .int v84_m_s.2.2.2.1, .int v84_m_s.2.2.2.2.1, .int v84_m_s.2.2.2.2.2.1, .int v84_m_s.2.2.2.2.2.2.1, .int v84_m_s.2.2.2.2.2.2.2.1, .int v84_m_s.2.2.2.2.2.2.2.2.1, .long z127, g8, g9, g10, g11, g12, g13, g14, g15, g16, g17, g18, g19, g20, g21, g22])), (a1, .inl (cB23, 900, .inl v84_m_s.1))]) H := hP
                    have hD : va_D A ([(a0, .inr (9, [g3, g4, g5, g6, g7, .ref a1, .int v84_m_s.2.1, .int v84_m_s.2.2.1, .int v84_m_s.2.2.2.1, .int v84_m_s.2.2.2.2.1, .int v84_m_s.2.2.2.2.2.1, .int v84_m_s.2.2.2.2.2.2.1, .int v84_m_s.2.2.2.2.2.2.2.1, .int v84_m_s.2.2.2.2.2.2.2.2.1, .long z127, g8, g9, g10, g11, g12, g13, g14, g15, g16, g17, g18, g19, g20, g21, g22])), (a1, .inl (cB23, 900, .inl v84_m_s.1))]) := hD
                    exact J131 (v84_m_s.1, v84_m_s.2.1, v84_m_s.2.2.1, v84_m_s.2.2.2.1, v84_m_s.2.2.2.2.1, v84_m_s.2.2.2.2.2.1, v84_m_s.2.2.2.2.2.2.1, v84_m_s.2.2.2.2.2.2.2.1, v84_m_s.2.2.2.2.2.2.2.2.1, z127) H _ ls h  hP hD hS (lv_sub hl [0, 1] rfl)
            exact L84 FU (0 : Int32) (v9_m_s.1, v9_m_s.2.1, v9_m_s.2.2.1, v9_m_s.2.2.2.1, (0 : Int32), v9_m_s.2.2.2.1, v9_m_s.2.2.2.2.2.2.1, v9_m_s.2.2.2.2.2.2.2.1, v9_m_s.2.2.2.2.2.2.2.2.1, (0 : Int64)) H _ ls h  hP hD hS (lv_sub hl [0, 2] rfl)
        · have h := (if_pos c61).symm.trans h
          refine lv_aload_n hx hb dX12_goesOn_64 rfl (lv_at hl 2 rfl) ?_
          refine lv_iconst (v := 1) hx hb dX12_goesOn_65 (by decide) ?_
          refine va_put (D := (dC, dI)) (ci := 9) (v := .int 1) (ty := .int) (C := RX12) (T := TX12) (N := 30) hx hb hts ifX12_goesOn_X12 tyX12 tyX12_ok nmX12 hown hK hP hD hS 0 rfl rfl 9 (by decide) (hts (.fieldLink RX12 68 "HookPierModel" "sort" "I") (List.mem_of_getElem? (i := 1) rfl)) (fun _ h9 => h9) rfl (by decide +kernel) rfl rfl (Nat.le_of_ble_eq_true rfl) dX12_goesOn_66 (fun H locs hP hD hS => ?_)
          have hP : va_P (dC, dI) vwCl ([(a0, .inr (9, [g3, g4, g5, g6, g7, .ref a1, .int v9_m_s.2.1, .int v9_m_s.2.2.1, .int v9_m_s.2.2.2.1, .int 1, .int v9_m_s.2.2.2.1, .int v9_m_s.2.2.2.2.2.2.1, .int v9_m_s.2.2.2.2.2.2.2.1, .int v9_m_s.2.2.2.2.2.2.2.2.1, .long v9_m_s.2.2.2.2.2.2.2.2.2, g8, g9, g10, g11, g12, g13, g14, g15, g16, g17, g18, g19, g20, g21, g22])), (a1, .inl (cB23, 900, .inl v9_m_s.1))]) H := hP
          have hD : va_D A ([(a0, .inr (9, [g3, g4, g5, g6, g7, .ref a1, .int v9_m_s.2.1, .int v9_m_s.2.2.1, .int v9_m_s.2.2.2.1, .int 1, .int v9_m_s.2.2.2.1, .int v9_m_s.2.2.2.2.2.2.1, .int v9_m_s.2.2.2.2.2.2.2.1, .int v9_m_s.2.2.2.2.2.2.2.2.1, .long v9_m_s.2.2.2.2.2.2.2.2.2, g8, g9, g10, g11, g12, g13, g14, g15, g16, g17, g18, g19, g20, g21, g22])), (a1, .inl (cB23, 900, .inl v9_m_s.1))]) := hD
          refine lv_goto (tgt := 265) hx hb dX12_goesOn_69 (by decide) ?_
          obtain rfl := Option.some.inj h
          have hP9 := hP.sub (ws' := ([(a0, .inr (9, [g3, g4, g5, g6, g7, .ref a1, .int v9_m_s.2.1, .int v9_m_s.2.2.1, .int v9_m_s.2.2.2.1, .int 1, .int v9_m_s.2.2.2.1, .int v9_m_s.2.2.2.2.2.2.1, .int v9_m_s.2.2.2.2.2.2.2.1, .int v9_m_s.2.2.2.2.2.2.2.2.1, .long v9_m_s.2.2.2.2.2.2.2.2.2, g8, g9, g10, g11, g12, g13, g14, g15, g16, g17, g18, g19, g20, g21, g22])), (a1, .inl (cB23, 900, .inl v9_m_s.1))])) [0, 1] rfl
          have hD9 := hD.sub (ws' := ([(a0, .inr (9, [g3, g4, g5, g6, g7, .ref a1, .int v9_m_s.2.1, .int v9_m_s.2.2.1, .int v9_m_s.2.2.2.1, .int 1, .int v9_m_s.2.2.2.1, .int v9_m_s.2.2.2.2.2.2.1, .int v9_m_s.2.2.2.2.2.2.2.1, .int v9_m_s.2.2.2.2.2.2.2.2.1, .long v9_m_s.2.2.2.2.2.2.2.2.2, g8, g9, g10, g11, g12, g13, g14, g15, g16, g17, g18, g19, g20, g21, g22])), (a1, .inl (cB23, 900, .inl v9_m_s.1))])) [0, 1] (by decide) rfl
          have hK9 := hK.sub (tys' := []) [] rfl
          rw [hQQ]
          exact W.vret hx hb hr (fun t ht hW => ⟨⟨(), rfl, trivial, by rw [ht]; exact hP9, va_K.moved hW.alike hK9, hD9⟩, hS.F ht⟩) hS.2.2 dX12_goesOn_265
      · have h := (if_pos c19).symm.trans h
        refine lv_aload_n hx hb dX12_goesOn_22 rfl (lv_at hl 0 rfl) ?_
        refine lv_dup hx hb dX12_goesOn_23 rfl ?_
        refine va_get (D := (dC, dI)) (ci := 9) (v := .int v9_m_s.2.2.2.1) (C := RX12) (T := TX12) (N := 30) hx hb hts ifX12_goesOn_X12 hown hK hP 0 rfl rfl 8 (by decide) (hts (.fieldLink RX12 71 "HookPierModel" "spot" "I") (List.mem_of_getElem? (i := 2) rfl)) (fun _ h9 => h9) rfl dX12_goesOn_24 ?_
        refine lv_iconst (v := 1) hx hb dX12_goesOn_27 (by decide) ?_
        refine lv_iadd hx hb dX12_goesOn_28 ?_
        refine va_put (D := (dC, dI)) (ci := 9) (v := .int (v9_m_s.2.2.2.1 + (1 : Int32))) (ty := .int) (C := RX12) (T := TX12) (N := 30) hx hb hts ifX12_goesOn_X12 tyX12 tyX12_ok nmX12 hown hK hP hD hS 0 rfl rfl 8 (by decide) (hts (.fieldLink RX12 71 "HookPierModel" "spot" "I") (List.mem_of_getElem? (i := 2) rfl)) (fun _ h9 => h9) rfl (by decide +kernel) rfl rfl (Nat.le_of_ble_eq_true rfl) dX12_goesOn_29 (fun H locs hP hD hS => ?_)
        have hP : va_P (dC, dI) vwCl ([(a0, .inr (9, [g3, g4, g5, g6, g7, .ref a1, .int v9_m_s.2.1, .int v9_m_s.2.2.1, .int (v9_m_s.2.2.2.1 + (1 : Int32)), .int v9_m_s.2.2.2.2.1, .int v9_m_s.2.2.2.2.2.1, .int v9_m_s.2.2.2.2.2.2.1, .int v9_m_s.2.2.2.2.2.2.2.1, .int v9_m_s.2.2.2.2.2.2.2.2.1, .long v9_m_s.2.2.2.2.2.2.2.2.2, g8, g9, g10, g11, g12, g13, g14, g15, g16, g17, g18, g19, g20, g21, g22])), (a1, .inl (cB23, 900, .inl v9_m_s.1))]) H := hP
        have hD : va_D A ([(a0, .inr (9, [g3, g4, g5, g6, g7, .ref a1, .int v9_m_s.2.1, .int v9_m_s.2.2.1, .int (v9_m_s.2.2.2.1 + (1 : Int32)), .int v9_m_s.2.2.2.2.1, .int v9_m_s.2.2.2.2.2.1, .int v9_m_s.2.2.2.2.2.2.1, .int v9_m_s.2.2.2.2.2.2.2.1, .int v9_m_s.2.2.2.2.2.2.2.2.1, .long v9_m_s.2.2.2.2.2.2.2.2.2, g8, g9, g10, g11, g12, g13, g14, g15, g16, g17, g18, g19, g20, g21, g22])), (a1, .inl (cB23, 900, .inl v9_m_s.1))]) := hD
        refine lv_goto (tgt := 9) hx hb dX12_goesOn_32 (by decide) ?_
        exact ih9 (v9_m_s.1, v9_m_s.2.1, v9_m_s.2.2.1, (v9_m_s.2.2.2.1 + (1 : Int32)), v9_m_s.2.2.2.2) H _ ls h  hP hD hS (lv_sub hl [0] rfl)
  refine lv_icmp_ne (tgt := 9) hx hb dX12_goesOn_5 (by decide) (fun c5 => ?_) (fun c5 => ?_)
  · have h := (if_neg c5).symm.trans h
    exact L9 FU m_s s.heap _ ls h  hP hD hS (lv_sub hl [0] rfl)
  · have h := (if_pos c5).symm.trans h
    obtain rfl := Option.some.inj h
    have hP9 := hP.sub (ws' := ([(a0, .inr (9, [g3, g4, g5, g6, g7, .ref a1, .int m_s.2.1, .int m_s.2.2.1, .int m_s.2.2.2.1, .int m_s.2.2.2.2.1, .int m_s.2.2.2.2.2.1, .int m_s.2.2.2.2.2.2.1, .int m_s.2.2.2.2.2.2.2.1, .int m_s.2.2.2.2.2.2.2.2.1, .long m_s.2.2.2.2.2.2.2.2.2, g8, g9, g10, g11, g12, g13, g14, g15, g16, g17, g18, g19, g20, g21, g22])), (a1, .inl (cB23, 900, .inl m_s.1))])) [0, 1] rfl
    have hD9 := hD.sub (ws' := ([(a0, .inr (9, [g3, g4, g5, g6, g7, .ref a1, .int m_s.2.1, .int m_s.2.2.1, .int m_s.2.2.2.1, .int m_s.2.2.2.2.1, .int m_s.2.2.2.2.2.1, .int m_s.2.2.2.2.2.2.1, .int m_s.2.2.2.2.2.2.2.1, .int m_s.2.2.2.2.2.2.2.2.1, .long m_s.2.2.2.2.2.2.2.2.2, g8, g9, g10, g11, g12, g13, g14, g15, g16, g17, g18, g19, g20, g21, g22])), (a1, .inl (cB23, 900, .inl m_s.1))])) [0, 1] (by decide) rfl
    have hK9 := hK.sub (tys' := []) [] rfl
    rw [hQQ]
    exact W.vret hx hb hr (fun t ht hW => ⟨⟨(), rfl, trivial, by rw [ht]; exact hP9, va_K.moved hW.alike hK9, hD9⟩, hS.F ht⟩) hS.2.2 dX12_goesOn_8
theorem dX12_flaw_0 : decode cX12_flaw 0 = .ok (.aload_n 0, 1) := by decide +kernel
theorem dX12_flaw_1 : decode cX12_flaw 1 = .ok (.getfield 68, 3) := by decide +kernel
theorem dX12_flaw_10 : decode cX12_flaw 10 = .ok (.iload_n 1, 1) := by decide +kernel
theorem dX12_flaw_11 : decode cX12_flaw 11 = .ok (.putfield 94, 3) := by decide +kernel
theorem dX12_flaw_14 : decode cX12_flaw 14 = .ok (.aload_n 0, 1) := by decide +kernel
theorem dX12_flaw_15 : decode cX12_flaw 15 = .ok (.aload_n 0, 1) := by decide +kernel
theorem dX12_flaw_16 : decode cX12_flaw 16 = .ok (.getfield 77, 3) := by decide +kernel
theorem dX12_flaw_19 : decode cX12_flaw 19 = .ok (.putfield 97, 3) := by decide +kernel
theorem dX12_flaw_22 : decode cX12_flaw 22 = .ok (.aload_n 0, 1) := by decide +kernel
theorem dX12_flaw_23 : decode cX12_flaw 23 = .ok (.iconst 5, 1) := by decide +kernel
theorem dX12_flaw_24 : decode cX12_flaw 24 = .ok (.putfield 68, 3) := by decide +kernel
theorem dX12_flaw_27 : decode cX12_flaw 27 = .ok (.return_, 1) := by decide +kernel
theorem dX12_flaw_4 : decode cX12_flaw 4 = .ok (.iconst 5, 1) := by decide +kernel
theorem dX12_flaw_5 : decode cX12_flaw 5 = .ok (.if_icmp .ne 4, 3) := by decide +kernel
theorem dX12_flaw_8 : decode cX12_flaw 8 = .ok (.return_, 1) := by decide +kernel
theorem dX12_flaw_9 : decode cX12_flaw 9 = .ok (.aload_n 0, 1) := by decide +kernel
def vfX12_flaw : List Cond := List.cons (.code yX12_flaw cX12_flaw 2 none) (apW [.fieldLink RX12 68 "HookPierModel" "sort" "I", .fieldLink RX12 94 "HookPierModel" "fault" "I", .fieldLink RX12 77 "HookPierModel" "place" "I", .fieldLink RX12 97 "HookPierModel" "wrongAt" "I"] (wsX120))
theorem ifX12_flaw_X12 : ∀ w ∈ wsX120, w ∈ vfX12_flaw := fun _ h => (List.mem_cons_of_mem _ (List.mem_append_right _ h))
theorem qfX12_flaw : Good vfX12_flaw := gd_cons (by decide +kernel) (gd_app (gd_dec (by decide +kernel) : Good [.fieldLink RX12 68 "HookPierModel" "sort" "I", .fieldLink RX12 94 "HookPierModel" "fault" "I", .fieldLink RX12 77 "HookPierModel" "place" "I", .fieldLink RX12 97 "HookPierModel" "wrongAt" "I"]) qsX12)
set_option maxHeartbeats 2000000 in
set_option maxRecDepth 100000 in
theorem kfX12_flaw (l : Launch) (dC : Nat → ClassId) (dI : Nat → Nat → Nat) (a0 : Nat) (k1 : Int32) (a2 : Nat) (m_s : TX12_s) (g4 : Value) (g5 : Value) (g6 : Value) (g7 : Value) (g8 : Value) (g9 : Value) (g10 : Value) (g11 : Value) (g12 : Value) (g13 : Value) (g14 : Value) (g15 : Value) (g16 : Value) (g17 : Value) (g18 : Value) (g19 : Value) (g20 : Value) (g21 : Value) (g22 : Value) (g23 : Value) (cB24 : ClassId) (sz : Nat) (out : TX12_s) (h : f_X12_flaw k1 m_s = out) : Met l yX12_flaw vfX12_flaw ({ frames := 0, cells := 0, slots := 0, locals := 0 }) (PC (dC, dI) [.ref a0, .int k1] sz ([(a0, .inr (9, [g4, g5, g6, g7, g8, .ref a2, .int m_s.2.1, .int m_s.2.2.1, .int m_s.2.2.2.1, .int m_s.2.2.2.2.1, .int m_s.2.2.2.2.2.1, .int m_s.2.2.2.2.2.2.1, .int m_s.2.2.2.2.2.2.2.1, .int m_s.2.2.2.2.2.2.2.2.1, .long m_s.2.2.2.2.2.2.2.2.2, g9, g10, g11, g12, g13, g14, g15, g16, g17, g18, g19, g20, g21, g22, g23])), (a2, .inl (cB24, 900, .inl m_s.1))]) ((cB24, .byte) :: [])) (va_Qv (S := Unit) (fun _ => True) (fun _ t => BC (dC, dI) (va_A ([(a0, .inr (9, [g4, g5, g6, g7, g8, .ref a2, .int m_s.2.1, .int m_s.2.2.1, .int m_s.2.2.2.1, .int m_s.2.2.2.2.1, .int m_s.2.2.2.2.2.1, .int m_s.2.2.2.2.2.2.1, .int m_s.2.2.2.2.2.2.2.1, .int m_s.2.2.2.2.2.2.2.2.1, .long m_s.2.2.2.2.2.2.2.2.2, g9, g10, g11, g12, g13, g14, g15, g16, g17, g18, g19, g20, g21, g22, g23])), (a2, .inl (cB24, 900, .inl m_s.1))]) sz) ([(a0, .inr (9, [g4, g5, g6, g7, g8, .ref a2, .int out.2.1, .int out.2.2.1, .int out.2.2.2.1, .int out.2.2.2.2.1, .int out.2.2.2.2.2.1, .int out.2.2.2.2.2.2.1, .int out.2.2.2.2.2.2.2.1, .int out.2.2.2.2.2.2.2.2.1, .long out.2.2.2.2.2.2.2.2.2, g9, g10, g11, g12, g13, g14, g15, g16, g17, g18, g19, g20, g21, g22, g23])), (a2, .inl (cB24, 900, .inl out.1))]) [] t) (va_A ([(a0, .inr (9, [g4, g5, g6, g7, g8, .ref a2, .int m_s.2.1, .int m_s.2.2.1, .int m_s.2.2.2.1, .int m_s.2.2.2.2.1, .int m_s.2.2.2.2.2.1, .int m_s.2.2.2.2.2.2.1, .int m_s.2.2.2.2.2.2.2.1, .int m_s.2.2.2.2.2.2.2.2.1, .long m_s.2.2.2.2.2.2.2.2.2, g9, g10, g11, g12, g13, g14, g15, g16, g17, g18, g19, g20, g21, g22, g23])), (a2, .inl (cB24, 900, .inl m_s.1))]) sz)) 0 0 (va_A ([(a0, .inr (9, [g4, g5, g6, g7, g8, .ref a2, .int m_s.2.1, .int m_s.2.2.1, .int m_s.2.2.2.1, .int m_s.2.2.2.2.1, .int m_s.2.2.2.2.2.1, .int m_s.2.2.2.2.2.2.1, .int m_s.2.2.2.2.2.2.2.1, .int m_s.2.2.2.2.2.2.2.2.1, .long m_s.2.2.2.2.2.2.2.2.2, g9, g10, g11, g12, g13, g14, g15, g16, g17, g18, g19, g20, g21, g22, g23])), (a2, .inl (cB24, 900, .inl m_s.1))]) sz) := by
  refine Met.ofW (cc := cX12_flaw) (maxL := 2) (ret := none) (by decide) rfl ?_
  intro p e s m args below meth c s₁ B0 hml hv
  obtain ⟨rfl, hsz, hP, hK, hD0, hN⟩ := hv
  have hx := B0.exec
  have hb := B0.bytes
  have hr := B0.returns
  have hts := atoms_spec (ws := vfX12_flaw) B0.pre
  have hown : s.vm.findClass RX12 = some m.cls := findClass_of_methodNamed B0.named
  have hlocks := B0.notSynchronized
  subst hsz
  have hD := hD0.self (sz := s.heap.size)
  generalize hAe : va_A ([(a0, .inr (9, [g4, g5, g6, g7, g8, .ref a2, .int m_s.2.1, .int m_s.2.2.1, .int m_s.2.2.2.1, .int m_s.2.2.2.2.1, .int m_s.2.2.2.2.2.1, .int m_s.2.2.2.2.2.2.1, .int m_s.2.2.2.2.2.2.2.1, .int m_s.2.2.2.2.2.2.2.2.1, .long m_s.2.2.2.2.2.2.2.2.2, g9, g10, g11, g12, g13, g14, g15, g16, g17, g18, g19, g20, g21, g22, g23])), (a2, .inl (cB24, 900, .inl m_s.1))]) s.heap.size = A at hD ⊢
  have hA : ∀ q : Nat, s.heap.size ≤ q → A q := fun q h => by rw [← hAe]; exact Or.inr h
  have hS : va_S A s.heap s.heap [] := va_S.rf
  have hP : va_P (dC, dI) vwCl ([(a0, .inr (9, [g4, g5, g6, g7, g8, .ref a2, .int m_s.2.1, .int m_s.2.2.1, .int m_s.2.2.2.1, .int m_s.2.2.2.2.1, .int m_s.2.2.2.2.2.1, .int m_s.2.2.2.2.2.2.1, .int m_s.2.2.2.2.2.2.2.1, .int m_s.2.2.2.2.2.2.2.2.1, .long m_s.2.2.2.2.2.2.2.2.2, g9, g10, g11, g12, g13, g14, g15, g16, g17, g18, g19, g20, g21, g22, g23])), (a2, .inl (cB24, 900, .inl m_s.1))]) s.heap := hP
  have hl := lv_entry ([.ref a0, .int k1]) (n := 2) (Nat.le_of_ble_eq_true rfl)
  rw [lg_entry_eq]
  generalize (lg_sl ([.ref a0, .int k1]) ++ List.replicate (2 - (lg_sl ([.ref a0, .int k1])).length) Slot.unset).toArray = ls at hl ⊢
  have hl : lv_has ls 2 [(0, .ref a0), (1, .int k1)] := hl
  refine W_q (fun QQ hQQ => ?_)
  rw [f_X12_flaw] at h
  refine lv_aload_n hx hb dX12_flaw_0 rfl (lv_at hl 0 rfl) ?_
  refine va_get (D := (dC, dI)) (ci := 9) (v := .int m_s.2.2.2.2.1) (C := RX12) (T := TX12) (N := 30) hx hb hts ifX12_flaw_X12 hown hK hP 0 rfl rfl 9 (by decide) (hts (.fieldLink RX12 68 "HookPierModel" "sort" "I") (List.mem_of_getElem? (i := 1) rfl)) (fun _ h9 => h9) rfl dX12_flaw_1 ?_
  refine lv_iconst (v := 5) hx hb dX12_flaw_4 (by decide) ?_
  refine lv_icmp_ne (tgt := 9) hx hb dX12_flaw_5 (by decide) (fun c5 => ?_) (fun c5 => ?_)
  · have h := (if_neg c5).symm.trans h
    refine lv_aload_n hx hb dX12_flaw_9 rfl (lv_at hl 0 rfl) ?_
    refine lv_iload_n hx hb dX12_flaw_10 rfl (lv_at hl 1 rfl) ?_
    refine va_put (D := (dC, dI)) (ci := 9) (v := .int k1) (ty := .int) (C := RX12) (T := TX12) (N := 30) hx hb hts ifX12_flaw_X12 tyX12 tyX12_ok nmX12 hown hK hP hD hS 0 rfl rfl 12 (by decide) (hts (.fieldLink RX12 94 "HookPierModel" "fault" "I") (List.mem_of_getElem? (i := 2) rfl)) (fun _ h9 => h9) rfl (by decide +kernel) rfl rfl (Nat.le_of_ble_eq_true rfl) dX12_flaw_11 (fun H locs hP hD hS => ?_)
    have hP : va_P (dC, dI) vwCl ([(a0, .inr (9, [g4, g5, g6, g7, g8, .ref a2, .int m_s.2.1, .int m_s.2.2.1, .int m_s.2.2.2.1, .int m_s.2.2.2.2.1, .int m_s.2.2.2.2.2.1, .int m_s.2.2.2.2.2.2.1, .int k1, .int m_s.2.2.2.2.2.2.2.2.1, .long m_s.2.2.2.2.2.2.2.2.2, g9, g10, g11, g12, g13, g14, g15, g16, g17, g18, g19, g20, g21, g22, g23])), (a2, .inl (cB24, 900, .inl m_s.1))]) H := hP
    have hD : va_D A ([(a0, .inr (9, [g4, g5, g6, g7, g8, .ref a2, .int m_s.2.1, .int m_s.2.2.1, .int m_s.2.2.2.1, .int m_s.2.2.2.2.1, .int m_s.2.2.2.2.2.1, .int m_s.2.2.2.2.2.2.1, .int k1, .int m_s.2.2.2.2.2.2.2.2.1, .long m_s.2.2.2.2.2.2.2.2.2, g9, g10, g11, g12, g13, g14, g15, g16, g17, g18, g19, g20, g21, g22, g23])), (a2, .inl (cB24, 900, .inl m_s.1))]) := hD
    refine lv_aload_n hx hb dX12_flaw_14 rfl (lv_at hl 0 rfl) ?_
    refine lv_aload_n hx hb dX12_flaw_15 rfl (lv_at hl 0 rfl) ?_
    refine va_get (D := (dC, dI)) (ci := 9) (v := .int m_s.2.2.2.2.2.1) (C := RX12) (T := TX12) (N := 30) hx hb hts ifX12_flaw_X12 hown hK hP 0 rfl rfl 10 (by decide) (hts (.fieldLink RX12 77 "HookPierModel" "place" "I") (List.mem_of_getElem? (i := 3) rfl)) (fun _ h9 => h9) rfl dX12_flaw_16 ?_
    refine va_put (D := (dC, dI)) (ci := 9) (v := .int m_s.2.2.2.2.2.1) (ty := .int) (C := RX12) (T := TX12) (N := 30) hx hb hts ifX12_flaw_X12 tyX12 tyX12_ok nmX12 hown hK hP hD hS 0 rfl rfl 13 (by decide) (hts (.fieldLink RX12 97 "HookPierModel" "wrongAt" "I") (List.mem_of_getElem? (i := 4) rfl)) (fun _ h9 => h9) rfl (by decide +kernel) rfl rfl (Nat.le_of_ble_eq_true rfl) dX12_flaw_19 (fun H locs hP hD hS => ?_)
    have hP : va_P (dC, dI) vwCl ([(a0, .inr (9, [g4, g5, g6, g7, g8, .ref a2, .int m_s.2.1, .int m_s.2.2.1, .int m_s.2.2.2.1, .int m_s.2.2.2.2.1, .int m_s.2.2.2.2.2.1, .int m_s.2.2.2.2.2.2.1, .int k1, .int m_s.2.2.2.2.2.1, .long m_s.2.2.2.2.2.2.2.2.2, g9, g10, g11, g12, g13, g14, g15, g16, g17, g18, g19, g20, g21, g22, g23])), (a2, .inl (cB24, 900, .inl m_s.1))]) H := hP
    have hD : va_D A ([(a0, .inr (9, [g4, g5, g6, g7, g8, .ref a2, .int m_s.2.1, .int m_s.2.2.1, .int m_s.2.2.2.1, .int m_s.2.2.2.2.1, .int m_s.2.2.2.2.2.1, .int m_s.2.2.2.2.2.2.1, .int k1, .int m_s.2.2.2.2.2.1, .long m_s.2.2.2.2.2.2.2.2.2, g9, g10, g11, g12, g13, g14, g15, g16, g17, g18, g19, g20, g21, g22, g23])), (a2, .inl (cB24, 900, .inl m_s.1))]) := hD
    refine lv_aload_n hx hb dX12_flaw_22 rfl (lv_at hl 0 rfl) ?_
    refine lv_iconst (v := 5) hx hb dX12_flaw_23 (by decide) ?_
    refine va_put (D := (dC, dI)) (ci := 9) (v := .int 5) (ty := .int) (C := RX12) (T := TX12) (N := 30) hx hb hts ifX12_flaw_X12 tyX12 tyX12_ok nmX12 hown hK hP hD hS 0 rfl rfl 9 (by decide) (hts (.fieldLink RX12 68 "HookPierModel" "sort" "I") (List.mem_of_getElem? (i := 1) rfl)) (fun _ h9 => h9) rfl (by decide +kernel) rfl rfl (Nat.le_of_ble_eq_true rfl) dX12_flaw_24 (fun H locs hP hD hS => ?_)
    have hP : va_P (dC, dI) vwCl ([(a0, .inr (9, [g4, g5, g6, g7, g8, .ref a2, .int m_s.2.1, .int m_s.2.2.1, .int m_s.2.2.2.1, .int 5, .int m_s.2.2.2.2.2.1, .int m_s.2.2.2.2.2.2.1, .int k1, .int m_s.2.2.2.2.2.1, .long m_s.2.2.2.2.2.2.2.2.2, g9, g10, g11, g12, g13, g14, g15, g16, g17, g18, g19, g20, g21, g22, g23])), (a2, .inl (cB24, 900, .inl m_s.1))]) H := hP
    have hD : va_D A ([(a0, .inr (9, [g4, g5, g6, g7, g8, .ref a2, .int m_s.2.1, .int m_s.2.2.1, .int m_s.2.2.2.1, .int 5, .int m_s.2.2.2.2.2.1, .int m_s.2.2.2.2.2.2.1, .int k1, .int m_s.2.2.2.2.2.1, .long m_s.2.2.2.2.2.2.2.2.2, g9, g10, g11, g12, g13, g14, g15, g16, g17, g18, g19, g20, g21, g22, g23])), (a2, .inl (cB24, 900, .inl m_s.1))]) := hD
    obtain rfl := h
    have hP9 := hP.sub (ws' := ([(a0, .inr (9, [g4, g5, g6, g7, g8, .ref a2, .int m_s.2.1, .int m_s.2.2.1, .int m_s.2.2.2.1, .int 5, .int m_s.2.2.2.2.2.1, .int m_s.2.2.2.2.2.2.1, .int k1, .int m_s.2.2.2.2.2.1, .long m_s.2.2.2.2.2.2.2.2.2, g9, g10, g11, g12, g13, g14, g15, g16, g17, g18, g19, g20, g21, g22, g23])), (a2, .inl (cB24, 900, .inl m_s.1))])) [0, 1] rfl
    have hD9 := hD.sub (ws' := ([(a0, .inr (9, [g4, g5, g6, g7, g8, .ref a2, .int m_s.2.1, .int m_s.2.2.1, .int m_s.2.2.2.1, .int 5, .int m_s.2.2.2.2.2.1, .int m_s.2.2.2.2.2.2.1, .int k1, .int m_s.2.2.2.2.2.1, .long m_s.2.2.2.2.2.2.2.2.2, g9, g10, g11, g12, g13, g14, g15, g16, g17, g18, g19, g20, g21, g22, g23])), (a2, .inl (cB24, 900, .inl m_s.1))])) [0, 1] (by decide) rfl
    have hK9 := hK.sub (tys' := []) [] rfl
    rw [hQQ]
    exact W.vret hx hb hr (fun t ht hW => ⟨⟨(), rfl, trivial, by rw [ht]; exact hP9, va_K.moved hW.alike hK9, hD9⟩, hS.F ht⟩) hS.2.2 dX12_flaw_27
  · have h := (if_pos c5).symm.trans h
    obtain rfl := h
    have hP9 := hP.sub (ws' := ([(a0, .inr (9, [g4, g5, g6, g7, g8, .ref a2, .int m_s.2.1, .int m_s.2.2.1, .int m_s.2.2.2.1, .int m_s.2.2.2.2.1, .int m_s.2.2.2.2.2.1, .int m_s.2.2.2.2.2.2.1, .int m_s.2.2.2.2.2.2.2.1, .int m_s.2.2.2.2.2.2.2.2.1, .long m_s.2.2.2.2.2.2.2.2.2, g9, g10, g11, g12, g13, g14, g15, g16, g17, g18, g19, g20, g21, g22, g23])), (a2, .inl (cB24, 900, .inl m_s.1))])) [0, 1] rfl
    have hD9 := hD.sub (ws' := ([(a0, .inr (9, [g4, g5, g6, g7, g8, .ref a2, .int m_s.2.1, .int m_s.2.2.1, .int m_s.2.2.2.1, .int m_s.2.2.2.2.1, .int m_s.2.2.2.2.2.1, .int m_s.2.2.2.2.2.2.1, .int m_s.2.2.2.2.2.2.2.1, .int m_s.2.2.2.2.2.2.2.2.1, .long m_s.2.2.2.2.2.2.2.2.2, g9, g10, g11, g12, g13, g14, g15, g16, g17, g18, g19, g20, g21, g22, g23])), (a2, .inl (cB24, 900, .inl m_s.1))])) [0, 1] (by decide) rfl
    have hK9 := hK.sub (tys' := []) [] rfl
    rw [hQQ]
    exact W.vret hx hb hr (fun t ht hW => ⟨⟨(), rfl, trivial, by rw [ht]; exact hP9, va_K.moved hW.alike hK9, hD9⟩, hS.F ht⟩) hS.2.2 dX12_flaw_8
theorem dX12_isWord_0 : decode cX12_isWord 0 = .ok (.aload_n 0, 1) := by decide +kernel
theorem dX12_isWord_1 : decode cX12_isWord 1 = .ok (.getfield 68, 3) := by decide +kernel
theorem dX12_isWord_12 : decode cX12_isWord 12 = .ok (.aload_n 1, 1) := by decide +kernel
theorem dX12_isWord_13 : decode cX12_isWord 13 = .ok (.invokestatic 100, 3) := by decide +kernel
theorem dX12_isWord_16 : decode cX12_isWord 16 = .ok (.lcmp, 1) := by decide +kernel
theorem dX12_isWord_17 : decode cX12_isWord 17 = .ok (.ifCond .ne 7, 3) := by decide +kernel
theorem dX12_isWord_20 : decode cX12_isWord 20 = .ok (.iconst 1, 1) := by decide +kernel
theorem dX12_isWord_21 : decode cX12_isWord 21 = .ok (.goto 4, 3) := by decide +kernel
theorem dX12_isWord_24 : decode cX12_isWord 24 = .ok (.iconst 0, 1) := by decide +kernel
theorem dX12_isWord_25 : decode cX12_isWord 25 = .ok (.ireturn, 1) := by decide +kernel
theorem dX12_isWord_4 : decode cX12_isWord 4 = .ok (.iconst 2, 1) := by decide +kernel
theorem dX12_isWord_5 : decode cX12_isWord 5 = .ok (.if_icmp .ne 19, 3) := by decide +kernel
theorem dX12_isWord_8 : decode cX12_isWord 8 = .ok (.aload_n 0, 1) := by decide +kernel
theorem dX12_isWord_9 : decode cX12_isWord 9 = .ok (.getfield 84, 3) := by decide +kernel
def vfX12_isWord : List Cond := List.cons (.code yX12_isWord cX12_isWord 2 (some .boolean)) (apW [.fieldLink RX12 68 "HookPierModel" "sort" "I", .fieldLink RX12 84 "HookPierModel" "word" "J", .methodLink RX12 100 yX12_packed, .static yX12_packed, .initialized RX12] (apW wsX120 (vfX12_packed)))
theorem ifX12_isWord_X12 : ∀ w ∈ wsX120, w ∈ vfX12_isWord := fun _ h => (List.mem_cons_of_mem _ (List.mem_append_right _ (List.mem_append_left _ h)))
theorem qfX12_isWord : Good vfX12_isWord := gd_cons (by decide +kernel) (gd_app (gd_dec (by decide +kernel) : Good [.fieldLink RX12 68 "HookPierModel" "sort" "I", .fieldLink RX12 84 "HookPierModel" "word" "J", .methodLink RX12 100 yX12_packed, .static yX12_packed, .initialized RX12]) (gd_app qsX12 qfX12_packed))
theorem gfX12_isWord_0 : GoodIn vfX12_isWord (va_wsS RX12 100 yX12_packed vfX12_packed) := goodIn_app (goodIn_r [.methodLink RX12 100 yX12_packed, .static yX12_packed, .initialized RX12] [3, 4, 5] rfl (by decide +kernel)) (goodIn_m (fun _ h => (List.mem_cons_of_mem _ (List.mem_append_right _ (List.mem_append_right _ h)))) qfX12_packed)
set_option maxHeartbeats 2000000 in
set_option maxRecDepth 100000 in
theorem kfX12_isWord (l : Launch) (dC : Nat → ClassId) (dI : Nat → Nat → Nat) (a0 : Nat) (a1 : Nat) (w1 : List Int32) (a3 : Nat) (m_s : TX12_s) (g5 : Value) (g6 : Value) (g7 : Value) (g8 : Value) (g9 : Value) (g10 : Value) (g11 : Value) (g12 : Value) (g13 : Value) (g14 : Value) (g15 : Value) (g16 : Value) (g17 : Value) (g18 : Value) (g19 : Value) (g20 : Value) (g21 : Value) (g22 : Value) (g23 : Value) (g24 : Value) (cB25 : ClassId) (sz : Nat) (B : Nat) (out : Int32) (h : f_X12_isWord w1 m_s = some out) : Met l yX12_isWord vfX12_isWord ({ frames := 5, cells := 0, slots := 0, locals := 108 }) (PF (dC, dI) B [.ref a0, .ref a1] sz ([(a0, .inr (9, [g5, g6, g7, g8, g9, .ref a3, .int m_s.2.1, .int m_s.2.2.1, .int m_s.2.2.2.1, .int m_s.2.2.2.2.1, .int m_s.2.2.2.2.2.1, .int m_s.2.2.2.2.2.2.1, .int m_s.2.2.2.2.2.2.2.1, .int m_s.2.2.2.2.2.2.2.2.1, .long m_s.2.2.2.2.2.2.2.2.2, g10, g11, g12, g13, g14, g15, g16, g17, g18, g19, g20, g21, g22, g23, g24])), (a3, .inl (cB25, 900, .inl m_s.1))]) ((cB25, .byte) :: []) [(a1, w1)]) (va_Qi (S := Unit) (fun (r : Int32) _ => r = out ∧ (0 ≤ r.toInt ∧ r.toInt ≤ 1)) (fun _ t => BC (dC, dI) (va_A ([(a0, .inr (9, [g5, g6, g7, g8, g9, .ref a3, .int m_s.2.1, .int m_s.2.2.1, .int m_s.2.2.2.1, .int m_s.2.2.2.2.1, .int m_s.2.2.2.2.2.1, .int m_s.2.2.2.2.2.2.1, .int m_s.2.2.2.2.2.2.2.1, .int m_s.2.2.2.2.2.2.2.2.1, .long m_s.2.2.2.2.2.2.2.2.2, g10, g11, g12, g13, g14, g15, g16, g17, g18, g19, g20, g21, g22, g23, g24])), (a3, .inl (cB25, 900, .inl m_s.1))]) sz) ([(a0, .inr (9, [g5, g6, g7, g8, g9, .ref a3, .int m_s.2.1, .int m_s.2.2.1, .int m_s.2.2.2.1, .int m_s.2.2.2.2.1, .int m_s.2.2.2.2.2.1, .int m_s.2.2.2.2.2.2.1, .int m_s.2.2.2.2.2.2.2.1, .int m_s.2.2.2.2.2.2.2.2.1, .long m_s.2.2.2.2.2.2.2.2.2, g10, g11, g12, g13, g14, g15, g16, g17, g18, g19, g20, g21, g22, g23, g24])), (a3, .inl (cB25, 900, .inl m_s.1))]) [] t) (va_A ([(a0, .inr (9, [g5, g6, g7, g8, g9, .ref a3, .int m_s.2.1, .int m_s.2.2.1, .int m_s.2.2.2.1, .int m_s.2.2.2.2.1, .int m_s.2.2.2.2.2.1, .int m_s.2.2.2.2.2.2.1, .int m_s.2.2.2.2.2.2.2.1, .int m_s.2.2.2.2.2.2.2.2.1, .long m_s.2.2.2.2.2.2.2.2.2, g10, g11, g12, g13, g14, g15, g16, g17, g18, g19, g20, g21, g22, g23, g24])), (a3, .inl (cB25, 900, .inl m_s.1))]) sz)) 0 0 (va_A ([(a0, .inr (9, [g5, g6, g7, g8, g9, .ref a3, .int m_s.2.1, .int m_s.2.2.1, .int m_s.2.2.2.1, .int m_s.2.2.2.2.1, .int m_s.2.2.2.2.2.1, .int m_s.2.2.2.2.2.2.1, .int m_s.2.2.2.2.2.2.2.1, .int m_s.2.2.2.2.2.2.2.2.1, .long m_s.2.2.2.2.2.2.2.2.2, g10, g11, g12, g13, g14, g15, g16, g17, g18, g19, g20, g21, g22, g23, g24])), (a3, .inl (cB25, 900, .inl m_s.1))]) sz) := by
  refine Met.ofW (cc := cX12_isWord) (maxL := 2) (ret := (some .boolean)) (by decide) rfl ?_
  intro p e s m args below meth c s₁ B0 hml hv
  obtain ⟨rfl, hsz, hP, hK, hD0, hN, hBs, hE, hX⟩ := hv
  have hBA := PF_reg hD0 hBs
  have xs1 : S1 B a1 w1 s := hX (a1, w1) (List.mem_of_getElem? (i := 0) rfl)
  have hx := B0.exec
  have hb := B0.bytes
  have hr := B0.returns
  have hts := atoms_spec (ws := vfX12_isWord) B0.pre
  have hown : s.vm.findClass RX12 = some m.cls := findClass_of_methodNamed B0.named
  have hlocks := B0.notSynchronized
  subst hsz
  have hD := hD0.self (sz := s.heap.size)
  generalize hAe : va_A ([(a0, .inr (9, [g5, g6, g7, g8, g9, .ref a3, .int m_s.2.1, .int m_s.2.2.1, .int m_s.2.2.2.1, .int m_s.2.2.2.2.1, .int m_s.2.2.2.2.2.1, .int m_s.2.2.2.2.2.2.1, .int m_s.2.2.2.2.2.2.2.1, .int m_s.2.2.2.2.2.2.2.2.1, .long m_s.2.2.2.2.2.2.2.2.2, g10, g11, g12, g13, g14, g15, g16, g17, g18, g19, g20, g21, g22, g23, g24])), (a3, .inl (cB25, 900, .inl m_s.1))]) s.heap.size = A at hD hBA ⊢
  have hA : ∀ q : Nat, s.heap.size ≤ q → A q := fun q h => by rw [← hAe]; exact Or.inr h
  have hS : va_S A s.heap s.heap [] := va_S.rf
  have hP : va_P (dC, dI) vwCl ([(a0, .inr (9, [g5, g6, g7, g8, g9, .ref a3, .int m_s.2.1, .int m_s.2.2.1, .int m_s.2.2.2.1, .int m_s.2.2.2.2.1, .int m_s.2.2.2.2.2.1, .int m_s.2.2.2.2.2.2.1, .int m_s.2.2.2.2.2.2.2.1, .int m_s.2.2.2.2.2.2.2.2.1, .long m_s.2.2.2.2.2.2.2.2.2, g10, g11, g12, g13, g14, g15, g16, g17, g18, g19, g20, g21, g22, g23, g24])), (a3, .inl (cB25, 900, .inl m_s.1))]) s.heap := hP
  have hl := lv_entry ([.ref a0, .ref a1]) (n := 2) (Nat.le_of_ble_eq_true rfl)
  rw [lg_entry_eq]
  generalize (lg_sl ([.ref a0, .ref a1]) ++ List.replicate (2 - (lg_sl ([.ref a0, .ref a1])).length) Slot.unset).toArray = ls at hl ⊢
  have hl : lv_has ls 2 [(0, .ref a0), (1, .ref a1)] := hl
  have hB : RB B s A := ⟨hBA, hBs⟩
  refine W_q (fun QQ hQQ => ?_)
  rw [f_X12_isWord] at h
  refine lv_aload_n hx hb dX12_isWord_0 rfl (lv_at hl 0 rfl) ?_
  refine va_get (D := (dC, dI)) (ci := 9) (v := .int m_s.2.2.2.2.1) (C := RX12) (T := TX12) (N := 30) hx hb hts ifX12_isWord_X12 hown hK hP 0 rfl rfl 9 (by decide) (hts (.fieldLink RX12 68 "HookPierModel" "sort" "I") (List.mem_of_getElem? (i := 1) rfl)) (fun _ h9 => h9) rfl dX12_isWord_1 ?_
  refine lv_iconst (v := 2) hx hb dX12_isWord_4 (by decide) ?_
  refine lv_icmp_ne (tgt := 24) hx hb dX12_isWord_5 (by decide) (fun c5 => ?_) (fun c5 => ?_)
  · have h := (if_neg c5).symm.trans h
    refine lv_iconst (v := 0) hx hb dX12_isWord_24 (by decide) ?_
    obtain rfl := Option.some.inj h
    have hP9 := hP.sub (ws' := ([(a0, .inr (9, [g5, g6, g7, g8, g9, .ref a3, .int m_s.2.1, .int m_s.2.2.1, .int m_s.2.2.2.1, .int m_s.2.2.2.2.1, .int m_s.2.2.2.2.2.1, .int m_s.2.2.2.2.2.2.1, .int m_s.2.2.2.2.2.2.2.1, .int m_s.2.2.2.2.2.2.2.2.1, .long m_s.2.2.2.2.2.2.2.2.2, g10, g11, g12, g13, g14, g15, g16, g17, g18, g19, g20, g21, g22, g23, g24])), (a3, .inl (cB25, 900, .inl m_s.1))])) [0, 1] rfl
    have hD9 := hD.sub (ws' := ([(a0, .inr (9, [g5, g6, g7, g8, g9, .ref a3, .int m_s.2.1, .int m_s.2.2.1, .int m_s.2.2.2.1, .int m_s.2.2.2.2.1, .int m_s.2.2.2.2.2.1, .int m_s.2.2.2.2.2.2.1, .int m_s.2.2.2.2.2.2.2.1, .int m_s.2.2.2.2.2.2.2.2.1, .long m_s.2.2.2.2.2.2.2.2.2, g10, g11, g12, g13, g14, g15, g16, g17, g18, g19, g20, g21, g22, g23, g24])), (a3, .inl (cB25, 900, .inl m_s.1))])) [0, 1] (by decide) rfl
    have hK9 := hK.sub (tys' := []) [] rfl
    rw [hQQ]
    exact W.zret (v := (0 : Int32)) hx hb hr rfl (fun t ht hW => ⟨⟨(0 : Int32), (), rfl, ⟨rfl, (by decide)⟩, by rw [ht]; exact hP9, va_K.moved hW.alike hK9, hD9⟩, hS.F ht⟩) hS.2.2 dX12_isWord_25
  · have h := (if_pos c5).symm.trans h
    refine lv_aload_n hx hb dX12_isWord_8 rfl (lv_at hl 0 rfl) ?_
    refine va_get (D := (dC, dI)) (ci := 9) (v := .long m_s.2.2.2.2.2.2.2.2.2) (C := RX12) (T := TX12) (N := 30) hx hb hts ifX12_isWord_X12 hown hK hP 0 rfl rfl 14 (by decide) (hts (.fieldLink RX12 84 "HookPierModel" "word" "J") (List.mem_of_getElem? (i := 2) rfl)) (fun _ h9 => h9) rfl dX12_isWord_9 ?_
    refine lv_aload_n hx hb dX12_isWord_12 rfl (lv_at hl 1 rfl) ?_
    obtain ⟨o13, eo13, h⟩ := bd_of h
    refine cl_l (wc := []) (wr := ([(a0, .inr (9, [g5, g6, g7, g8, g9, .ref a3, .int m_s.2.1, .int m_s.2.2.1, .int m_s.2.2.2.1, .int m_s.2.2.2.2.1, .int m_s.2.2.2.2.2.1, .int m_s.2.2.2.2.2.2.1, .int m_s.2.2.2.2.2.2.2.1, .int m_s.2.2.2.2.2.2.2.2.1, .long m_s.2.2.2.2.2.2.2.2.2, g10, g11, g12, g13, g14, g15, g16, g17, g18, g19, g20, g21, g22, g23, g24])), (a3, .inl (cB25, 900, .inl m_s.1))])) (va_runS (As := [.ref a1]) (rest := [.long m_s.2.2.2.2.2.2.2.2.2]) ⟨hx, hb, hml, hown, hts⟩ (kfX12_packed l dC dI a1 w1 s.heap.size B o13 eo13) (va_cwS 1 hts gfX12_isWord_0 rfl rfl rfl (by decide +kernel) ⟨(Nat.le_of_ble_eq_true rfl), (Nat.le_of_ble_eq_true rfl)⟩) (PSF (hP.sub (ws' := []) [] rfl) (hK.sub (tys' := ([])) [] rfl) (hD.sub (ws' := []) [] (by decide) rfl) hN hS hB hE (S1c xs1 S1n)) rfl rfl hl.1 rfl (lv_room (Nat.le_of_ble_eq_true rfl)) dX12_isWord_13 ⟨(Nat.le_of_ble_eq_true rfl), (Nat.le_of_ble_eq_true rfl)⟩) hP hD hK hS hA [] [0, 1] rfl rfl (by decide) (by decide) (fun r13 _ H locs hw hP hD _ hS => ?_)
    obtain rfl := hw.symm
    have hP : va_P (dC, dI) vwCl ([(a0, .inr (9, [g5, g6, g7, g8, g9, .ref a3, .int m_s.2.1, .int m_s.2.2.1, .int m_s.2.2.2.1, .int m_s.2.2.2.2.1, .int m_s.2.2.2.2.2.1, .int m_s.2.2.2.2.2.2.1, .int m_s.2.2.2.2.2.2.2.1, .int m_s.2.2.2.2.2.2.2.2.1, .long m_s.2.2.2.2.2.2.2.2.2, g10, g11, g12, g13, g14, g15, g16, g17, g18, g19, g20, g21, g22, g23, g24])), (a3, .inl (cB25, 900, .inl m_s.1))]) H := hP
    have hD : va_D A ([(a0, .inr (9, [g5, g6, g7, g8, g9, .ref a3, .int m_s.2.1, .int m_s.2.2.1, .int m_s.2.2.2.1, .int m_s.2.2.2.2.1, .int m_s.2.2.2.2.2.1, .int m_s.2.2.2.2.2.2.1, .int m_s.2.2.2.2.2.2.2.1, .int m_s.2.2.2.2.2.2.2.2.1, .long m_s.2.2.2.2.2.2.2.2.2, g10, g11, g12, g13, g14, g15, g16, g17, g18, g19, g20, g21, g22, g23, g24])), (a3, .inl (cB25, 900, .inl m_s.1))]) := hD
    refine W.lcmp hx hb dX12_isWord_16 ?_
    refine lv_if_ne (tgt := 24) hx hb dX12_isWord_17 (by decide) (fun c17 => ?_) (fun c17 => ?_)
    · have h := (if_neg c17).symm.trans h
      refine lv_iconst (v := 0) hx hb dX12_isWord_24 (by decide) ?_
      obtain rfl := Option.some.inj h
      have hP9 := hP.sub (ws' := ([(a0, .inr (9, [g5, g6, g7, g8, g9, .ref a3, .int m_s.2.1, .int m_s.2.2.1, .int m_s.2.2.2.1, .int m_s.2.2.2.2.1, .int m_s.2.2.2.2.2.1, .int m_s.2.2.2.2.2.2.1, .int m_s.2.2.2.2.2.2.2.1, .int m_s.2.2.2.2.2.2.2.2.1, .long m_s.2.2.2.2.2.2.2.2.2, g10, g11, g12, g13, g14, g15, g16, g17, g18, g19, g20, g21, g22, g23, g24])), (a3, .inl (cB25, 900, .inl m_s.1))])) [0, 1] rfl
      have hD9 := hD.sub (ws' := ([(a0, .inr (9, [g5, g6, g7, g8, g9, .ref a3, .int m_s.2.1, .int m_s.2.2.1, .int m_s.2.2.2.1, .int m_s.2.2.2.2.1, .int m_s.2.2.2.2.2.1, .int m_s.2.2.2.2.2.2.1, .int m_s.2.2.2.2.2.2.2.1, .int m_s.2.2.2.2.2.2.2.2.1, .long m_s.2.2.2.2.2.2.2.2.2, g10, g11, g12, g13, g14, g15, g16, g17, g18, g19, g20, g21, g22, g23, g24])), (a3, .inl (cB25, 900, .inl m_s.1))])) [0, 1] (by decide) rfl
      have hK9 := hK.sub (tys' := []) [] rfl
      rw [hQQ]
      exact W.zret (v := (0 : Int32)) hx hb hr rfl (fun t ht hW => ⟨⟨(0 : Int32), (), rfl, ⟨rfl, (by decide)⟩, by rw [ht]; exact hP9, va_K.moved hW.alike hK9, hD9⟩, hS.F ht⟩) hS.2.2 dX12_isWord_25
    · have h := (if_pos c17).symm.trans h
      refine lv_iconst (v := 1) hx hb dX12_isWord_20 (by decide) ?_
      refine lv_goto (tgt := 25) hx hb dX12_isWord_21 (by decide) ?_
      obtain rfl := Option.some.inj h
      have hP9 := hP.sub (ws' := ([(a0, .inr (9, [g5, g6, g7, g8, g9, .ref a3, .int m_s.2.1, .int m_s.2.2.1, .int m_s.2.2.2.1, .int m_s.2.2.2.2.1, .int m_s.2.2.2.2.2.1, .int m_s.2.2.2.2.2.2.1, .int m_s.2.2.2.2.2.2.2.1, .int m_s.2.2.2.2.2.2.2.2.1, .long m_s.2.2.2.2.2.2.2.2.2, g10, g11, g12, g13, g14, g15, g16, g17, g18, g19, g20, g21, g22, g23, g24])), (a3, .inl (cB25, 900, .inl m_s.1))])) [0, 1] rfl
      have hD9 := hD.sub (ws' := ([(a0, .inr (9, [g5, g6, g7, g8, g9, .ref a3, .int m_s.2.1, .int m_s.2.2.1, .int m_s.2.2.2.1, .int m_s.2.2.2.2.1, .int m_s.2.2.2.2.2.1, .int m_s.2.2.2.2.2.2.1, .int m_s.2.2.2.2.2.2.2.1, .int m_s.2.2.2.2.2.2.2.2.1, .long m_s.2.2.2.2.2.2.2.2.2, g10, g11, g12, g13, g14, g15, g16, g17, g18, g19, g20, g21, g22, g23, g24])), (a3, .inl (cB25, 900, .inl m_s.1))])) [0, 1] (by decide) rfl
      have hK9 := hK.sub (tys' := []) [] rfl
      rw [hQQ]
      exact W.zret (v := (1 : Int32)) hx hb hr rfl (fun t ht hW => ⟨⟨(1 : Int32), (), rfl, ⟨rfl, (by decide)⟩, by rw [ht]; exact hP9, va_K.moved hW.alike hK9, hD9⟩, hS.F ht⟩) hS.2.2 dX12_isWord_25
theorem dX12_eatsSemicolon_0 : decode cX12_eatsSemicolon 0 = .ok (.aload_n 0, 1) := by decide +kernel
theorem dX12_eatsSemicolon_1 : decode cX12_eatsSemicolon 1 = .ok (.getfield 68, 3) := by decide +kernel
theorem dX12_eatsSemicolon_12 : decode cX12_eatsSemicolon 12 = .ok (.iconst 0, 1) := by decide +kernel
theorem dX12_eatsSemicolon_13 : decode cX12_eatsSemicolon 13 = .ok (.istore_n 1, 1) := by decide +kernel
theorem dX12_eatsSemicolon_14 : decode cX12_eatsSemicolon 14 = .ok (.iload_n 1, 1) := by decide +kernel
theorem dX12_eatsSemicolon_15 : decode cX12_eatsSemicolon 15 = .ok (.ifCond .eq 7, 3) := by decide +kernel
theorem dX12_eatsSemicolon_18 : decode cX12_eatsSemicolon 18 = .ok (.aload_n 0, 1) := by decide +kernel
theorem dX12_eatsSemicolon_19 : decode cX12_eatsSemicolon 19 = .ok (.invokevirtual 104, 3) := by decide +kernel
theorem dX12_eatsSemicolon_22 : decode cX12_eatsSemicolon 22 = .ok (.iload_n 1, 1) := by decide +kernel
theorem dX12_eatsSemicolon_23 : decode cX12_eatsSemicolon 23 = .ok (.ireturn, 1) := by decide +kernel
theorem dX12_eatsSemicolon_4 : decode cX12_eatsSemicolon 4 = .ok (.iconst 4, 1) := by decide +kernel
theorem dX12_eatsSemicolon_5 : decode cX12_eatsSemicolon 5 = .ok (.if_icmp .ne 7, 3) := by decide +kernel
theorem dX12_eatsSemicolon_8 : decode cX12_eatsSemicolon 8 = .ok (.iconst 1, 1) := by decide +kernel
theorem dX12_eatsSemicolon_9 : decode cX12_eatsSemicolon 9 = .ok (.goto 4, 3) := by decide +kernel
def vfX12_eatsSemicolon : List Cond := List.cons (.code yX12_eatsSemicolon cX12_eatsSemicolon 2 (some .boolean)) (apW [.fieldLink RX12 68 "HookPierModel" "sort" "I", .methodLink RX12 104 yX12_goesOn, .instanceMethod yX12_goesOn, .selects RX12 yX12_goesOn yX12_goesOn, .initialized RX12] (apW wsX120 (vfX12_goesOn)))
theorem ifX12_eatsSemicolon_X12 : ∀ w ∈ wsX120, w ∈ vfX12_eatsSemicolon := fun _ h => (List.mem_cons_of_mem _ (List.mem_append_right _ (List.mem_append_left _ h)))
theorem qfX12_eatsSemicolon : Good vfX12_eatsSemicolon := gd_cons (by decide +kernel) (gd_app (gd_dec (by decide +kernel) : Good [.fieldLink RX12 68 "HookPierModel" "sort" "I", .methodLink RX12 104 yX12_goesOn, .instanceMethod yX12_goesOn, .selects RX12 yX12_goesOn yX12_goesOn, .initialized RX12]) (gd_app qsX12 qfX12_goesOn))
theorem gfX12_eatsSemicolon_0 : GoodIn vfX12_eatsSemicolon (wsV RX12 104 RX12 yX12_goesOn vfX12_goesOn) := goodIn_app (goodIn_r [.methodLink RX12 104 yX12_goesOn, .instanceMethod yX12_goesOn, .selects RX12 yX12_goesOn yX12_goesOn, .initialized RX12] [2, 3, 4, 5] rfl (by decide +kernel)) (goodIn_m (fun _ h => (List.mem_cons_of_mem _ (List.mem_append_right _ (List.mem_append_right _ h)))) qfX12_goesOn)
set_option maxHeartbeats 2000000 in
set_option maxRecDepth 100000 in
theorem kfX12_eatsSemicolon (l : Launch) (dC : Nat → ClassId) (dI : Nat → Nat → Nat) (a0 : Nat) (a1 : Nat) (m_s : TX12_s) (g3 : Value) (g4 : Value) (g5 : Value) (g6 : Value) (g7 : Value) (g8 : Value) (g9 : Value) (g10 : Value) (g11 : Value) (g12 : Value) (g13 : Value) (g14 : Value) (g15 : Value) (g16 : Value) (g17 : Value) (g18 : Value) (g19 : Value) (g20 : Value) (g21 : Value) (g22 : Value) (cB23 : ClassId) (sz : Nat) (out : (Int32 × TX12_s)) (h : f_X12_eatsSemicolon m_s = some out) : Met l yX12_eatsSemicolon vfX12_eatsSemicolon ({ frames := 2, cells := 0, slots := 0, locals := 43 }) (PC (dC, dI) [.ref a0] sz ([(a0, .inr (9, [g3, g4, g5, g6, g7, .ref a1, .int m_s.2.1, .int m_s.2.2.1, .int m_s.2.2.2.1, .int m_s.2.2.2.2.1, .int m_s.2.2.2.2.2.1, .int m_s.2.2.2.2.2.2.1, .int m_s.2.2.2.2.2.2.2.1, .int m_s.2.2.2.2.2.2.2.2.1, .long m_s.2.2.2.2.2.2.2.2.2, g8, g9, g10, g11, g12, g13, g14, g15, g16, g17, g18, g19, g20, g21, g22])), (a1, .inl (cB23, 900, .inl m_s.1))]) ((cB23, .byte) :: [])) (va_Qi (S := Unit) (fun (r : Int32) _ => r = out.1 ∧ (0 ≤ r.toInt ∧ r.toInt ≤ 1)) (fun _ t => BC (dC, dI) (va_A ([(a0, .inr (9, [g3, g4, g5, g6, g7, .ref a1, .int m_s.2.1, .int m_s.2.2.1, .int m_s.2.2.2.1, .int m_s.2.2.2.2.1, .int m_s.2.2.2.2.2.1, .int m_s.2.2.2.2.2.2.1, .int m_s.2.2.2.2.2.2.2.1, .int m_s.2.2.2.2.2.2.2.2.1, .long m_s.2.2.2.2.2.2.2.2.2, g8, g9, g10, g11, g12, g13, g14, g15, g16, g17, g18, g19, g20, g21, g22])), (a1, .inl (cB23, 900, .inl m_s.1))]) sz) ([(a0, .inr (9, [g3, g4, g5, g6, g7, .ref a1, .int out.2.2.1, .int out.2.2.2.1, .int out.2.2.2.2.1, .int out.2.2.2.2.2.1, .int out.2.2.2.2.2.2.1, .int out.2.2.2.2.2.2.2.1, .int out.2.2.2.2.2.2.2.2.1, .int out.2.2.2.2.2.2.2.2.2.1, .long out.2.2.2.2.2.2.2.2.2.2, g8, g9, g10, g11, g12, g13, g14, g15, g16, g17, g18, g19, g20, g21, g22])), (a1, .inl (cB23, 900, .inl out.2.1))]) [] t) (va_A ([(a0, .inr (9, [g3, g4, g5, g6, g7, .ref a1, .int m_s.2.1, .int m_s.2.2.1, .int m_s.2.2.2.1, .int m_s.2.2.2.2.1, .int m_s.2.2.2.2.2.1, .int m_s.2.2.2.2.2.2.1, .int m_s.2.2.2.2.2.2.2.1, .int m_s.2.2.2.2.2.2.2.2.1, .long m_s.2.2.2.2.2.2.2.2.2, g8, g9, g10, g11, g12, g13, g14, g15, g16, g17, g18, g19, g20, g21, g22])), (a1, .inl (cB23, 900, .inl m_s.1))]) sz)) 0 0 (va_A ([(a0, .inr (9, [g3, g4, g5, g6, g7, .ref a1, .int m_s.2.1, .int m_s.2.2.1, .int m_s.2.2.2.1, .int m_s.2.2.2.2.1, .int m_s.2.2.2.2.2.1, .int m_s.2.2.2.2.2.2.1, .int m_s.2.2.2.2.2.2.2.1, .int m_s.2.2.2.2.2.2.2.2.1, .long m_s.2.2.2.2.2.2.2.2.2, g8, g9, g10, g11, g12, g13, g14, g15, g16, g17, g18, g19, g20, g21, g22])), (a1, .inl (cB23, 900, .inl m_s.1))]) sz) := by
  refine Met.ofW (cc := cX12_eatsSemicolon) (maxL := 2) (ret := (some .boolean)) (by decide) rfl ?_
  intro p e s m args below meth c s₁ B0 hml hv
  obtain ⟨rfl, hsz, hP, hK, hD0, hN⟩ := hv
  have hx := B0.exec
  have hb := B0.bytes
  have hr := B0.returns
  have hts := atoms_spec (ws := vfX12_eatsSemicolon) B0.pre
  have hown : s.vm.findClass RX12 = some m.cls := findClass_of_methodNamed B0.named
  have hlocks := B0.notSynchronized
  subst hsz
  have hD := hD0.self (sz := s.heap.size)
  generalize hAe : va_A ([(a0, .inr (9, [g3, g4, g5, g6, g7, .ref a1, .int m_s.2.1, .int m_s.2.2.1, .int m_s.2.2.2.1, .int m_s.2.2.2.2.1, .int m_s.2.2.2.2.2.1, .int m_s.2.2.2.2.2.2.1, .int m_s.2.2.2.2.2.2.2.1, .int m_s.2.2.2.2.2.2.2.2.1, .long m_s.2.2.2.2.2.2.2.2.2, g8, g9, g10, g11, g12, g13, g14, g15, g16, g17, g18, g19, g20, g21, g22])), (a1, .inl (cB23, 900, .inl m_s.1))]) s.heap.size = A at hD ⊢
  have hA : ∀ q : Nat, s.heap.size ≤ q → A q := fun q h => by rw [← hAe]; exact Or.inr h
  have hS : va_S A s.heap s.heap [] := va_S.rf
  have hP : va_P (dC, dI) vwCl ([(a0, .inr (9, [g3, g4, g5, g6, g7, .ref a1, .int m_s.2.1, .int m_s.2.2.1, .int m_s.2.2.2.1, .int m_s.2.2.2.2.1, .int m_s.2.2.2.2.2.1, .int m_s.2.2.2.2.2.2.1, .int m_s.2.2.2.2.2.2.2.1, .int m_s.2.2.2.2.2.2.2.2.1, .long m_s.2.2.2.2.2.2.2.2.2, g8, g9, g10, g11, g12, g13, g14, g15, g16, g17, g18, g19, g20, g21, g22])), (a1, .inl (cB23, 900, .inl m_s.1))]) s.heap := hP
  have hl := lv_entry ([.ref a0]) (n := 2) (Nat.le_of_ble_eq_true rfl)
  rw [lg_entry_eq]
  generalize (lg_sl ([.ref a0]) ++ List.replicate (2 - (lg_sl ([.ref a0])).length) Slot.unset).toArray = ls at hl ⊢
  have hl : lv_has ls 2 [(0, .ref a0)] := hl
  refine W_q (fun QQ hQQ => ?_)
  rw [f_X12_eatsSemicolon] at h
  refine lv_aload_n hx hb dX12_eatsSemicolon_0 rfl (lv_at hl 0 rfl) ?_
  refine va_get (D := (dC, dI)) (ci := 9) (v := .int m_s.2.2.2.2.1) (C := RX12) (T := TX12) (N := 30) hx hb hts ifX12_eatsSemicolon_X12 hown hK hP 0 rfl rfl 9 (by decide) (hts (.fieldLink RX12 68 "HookPierModel" "sort" "I") (List.mem_of_getElem? (i := 1) rfl)) (fun _ h9 => h9) rfl dX12_eatsSemicolon_1 ?_
  refine lv_iconst (v := 4) hx hb dX12_eatsSemicolon_4 (by decide) ?_
  have J13 : ∀ (v13_t0 : Int32) (H : Heap) (locs : List Loc) (ls : Array Slot), f_X12_eatsSemicolon_J13 m_s v13_t0 = some out → 0 ≤ v13_t0.toInt ∧ v13_t0.toInt ≤ 1 → va_P (dC, dI) vwCl ([(a0, .inr (9, [g3, g4, g5, g6, g7, .ref a1, .int m_s.2.1, .int m_s.2.2.1, .int m_s.2.2.2.1, .int m_s.2.2.2.2.1, .int m_s.2.2.2.2.2.1, .int m_s.2.2.2.2.2.2.1, .int m_s.2.2.2.2.2.2.2.1, .int m_s.2.2.2.2.2.2.2.2.1, .long m_s.2.2.2.2.2.2.2.2.2, g8, g9, g10, g11, g12, g13, g14, g15, g16, g17, g18, g19, g20, g21, g22])), (a1, .inl (cB23, 900, .inl m_s.1))]) H → va_D A ([(a0, .inr (9, [g3, g4, g5, g6, g7, .ref a1, .int m_s.2.1, .int m_s.2.2.1, .int m_s.2.2.2.1, .int m_s.2.2.2.2.1, .int m_s.2.2.2.2.2.1, .int m_s.2.2.2.2.2.2.1, .int m_s.2.2.2.2.2.2.2.1, .int m_s.2.2.2.2.2.2.2.2.1, .long m_s.2.2.2.2.2.2.2.2.2, g8, g9, g10, g11, g12, g13, g14, g15, g16, g17, g18, g19, g20, g21, g22])), (a1, .inl (cB23, 900, .inl m_s.1))]) → va_S A s.heap H locs → lv_has ls 2 [(0, .ref a0)] → W p l e (headSpec vfX12_eatsSemicolon { frames := 2, cells := 0, slots := 0, locals := 43 }).room s m ([.ref a0]).toArray below meth c H locs 0 0 QQ (F0 m 13 ls [.int v13_t0]) := by
    intro v13_t0 H locs ls h zb_v13_t0 hP hD hS hl
    rw [f_X12_eatsSemicolon_J13] at h
    refine lv_istore_n (lv' := [(1, .int v13_t0), (0, .ref a0)]) hx hb dX12_eatsSemicolon_13 rfl hl (by decide) rfl (fun ls hl => ?_)
    refine lv_iload_n hx hb dX12_eatsSemicolon_14 rfl (lv_at hl 0 rfl) ?_
    have J22 : ∀ (v22_m_s : TX12_s) (H : Heap) (locs : List Loc) (ls : Array Slot), f_X12_eatsSemicolon_J22 v13_t0 v22_m_s = some out → va_P (dC, dI) vwCl ([(a0, .inr (9, [g3, g4, g5, g6, g7, .ref a1, .int v22_m_s.2.1, .int v22_m_s.2.2.1, .int v22_m_s.2.2.2.1, .int v22_m_s.2.2.2.2.1, .int v22_m_s.2.2.2.2.2.1, .int v22_m_s.2.2.2.2.2.2.1, .int v22_m_s.2.2.2.2.2.2.2.1, .int v22_m_s.2.2.2.2.2.2.2.2.1, .long v22_m_s.2.2.2.2.2.2.2.2.2, g8, g9, g10, g11, g12, g13, g14, g15, g16, g17, g18, g19, g20, g21, g22])), (a1, .inl (cB23, 900, .inl v22_m_s.1))]) H → va_D A ([(a0, .inr (9, [g3, g4, g5, g6, g7, .ref a1, .int v22_m_s.2.1, .int v22_m_s.2.2.1, .int v22_m_s.2.2.2.1, .int v22_m_s.2.2.2.2.1, .int v22_m_s.2.2.2.2.2.1, .int v22_m_s.2.2.2.2.2.2.1, .int v22_m_s.2.2.2.2.2.2.2.1, .int v22_m_s.2.2.2.2.2.2.2.2.1, .long v22_m_s.2.2.2.2.2.2.2.2.2, g8, g9, g10, g11, g12, g13, g14, g15, g16, g17, g18, g19, g20, g21, g22])), (a1, .inl (cB23, 900, .inl v22_m_s.1))]) → va_S A s.heap H locs → lv_has ls 2 [(1, .int v13_t0)] → W p l e (headSpec vfX12_eatsSemicolon { frames := 2, cells := 0, slots := 0, locals := 43 }).room s m ([.ref a0]).toArray below meth c H locs 0 0 QQ (F0 m 22 ls []) := by
      intro v22_m_s H locs ls h  hP hD hS hl
      rw [f_X12_eatsSemicolon_J22] at h
      refine lv_iload_n hx hb dX12_eatsSemicolon_22 rfl (lv_at hl 0 rfl) ?_
      obtain rfl := Option.some.inj h
      have hP9 := hP.sub (ws' := ([(a0, .inr (9, [g3, g4, g5, g6, g7, .ref a1, .int v22_m_s.2.1, .int v22_m_s.2.2.1, .int v22_m_s.2.2.2.1, .int v22_m_s.2.2.2.2.1, .int v22_m_s.2.2.2.2.2.1, .int v22_m_s.2.2.2.2.2.2.1, .int v22_m_s.2.2.2.2.2.2.2.1, .int v22_m_s.2.2.2.2.2.2.2.2.1, .long v22_m_s.2.2.2.2.2.2.2.2.2, g8, g9, g10, g11, g12, g13, g14, g15, g16, g17, g18, g19, g20, g21, g22])), (a1, .inl (cB23, 900, .inl v22_m_s.1))])) [0, 1] rfl
      have hD9 := hD.sub (ws' := ([(a0, .inr (9, [g3, g4, g5, g6, g7, .ref a1, .int v22_m_s.2.1, .int v22_m_s.2.2.1, .int v22_m_s.2.2.2.1, .int v22_m_s.2.2.2.2.1, .int v22_m_s.2.2.2.2.2.1, .int v22_m_s.2.2.2.2.2.2.1, .int v22_m_s.2.2.2.2.2.2.2.1, .int v22_m_s.2.2.2.2.2.2.2.2.1, .long v22_m_s.2.2.2.2.2.2.2.2.2, g8, g9, g10, g11, g12, g13, g14, g15, g16, g17, g18, g19, g20, g21, g22])), (a1, .inl (cB23, 900, .inl v22_m_s.1))])) [0, 1] (by decide) rfl
      have hK9 := hK.sub (tys' := []) [] rfl
      rw [hQQ]
      exact W.zret (v := v13_t0) hx hb hr (narz zb_v13_t0) (fun t ht hW => ⟨⟨v13_t0, (), rfl, ⟨rfl, zb_v13_t0⟩, by rw [ht]; exact hP9, va_K.moved hW.alike hK9, hD9⟩, hS.F ht⟩) hS.2.2 dX12_eatsSemicolon_23
    refine lv_if_eq (tgt := 22) hx hb dX12_eatsSemicolon_15 (by decide) (fun c15 => ?_) (fun c15 => ?_)
    · have h := (if_pos c15).symm.trans h
      exact J22 m_s H _ ls h  hP hD hS (lv_sub hl [0] rfl)
    · have h := (if_neg c15).symm.trans h
      refine lv_aload_n hx hb dX12_eatsSemicolon_18 rfl (lv_at hl 1 rfl) ?_
      obtain ⟨o19, eo19, h⟩ := bd_of h
      refine cl_v (wc := ([(a0, .inr (9, [g3, g4, g5, g6, g7, .ref a1, .int m_s.2.1, .int m_s.2.2.1, .int m_s.2.2.2.1, .int m_s.2.2.2.2.1, .int m_s.2.2.2.2.2.1, .int m_s.2.2.2.2.2.2.1, .int m_s.2.2.2.2.2.2.2.1, .int m_s.2.2.2.2.2.2.2.2.1, .long m_s.2.2.2.2.2.2.2.2.2, g8, g9, g10, g11, g12, g13, g14, g15, g16, g17, g18, g19, g20, g21, g22])), (a1, .inl (cB23, 900, .inl m_s.1))])) (wr := []) (va_runV (As := []) (rest := []) ⟨hx, hb, hml, hown, hts⟩ (kfX12_goesOn l dC dI a0 a1 m_s (g3) (g4) (g5) (g6) (g7) (g8) (g9) (g10) (g11) (g12) (g13) (g14) (g15) (g16) (g17) (g18) (g19) (g20) (g21) (g22) cB23 H.size o19 eo19) (cwV 0 hts gfX12_eatsSemicolon_0 rfl rfl rfl (by decide +kernel) ⟨(Nat.le_of_ble_eq_true rfl), (Nat.le_of_ble_eq_true rfl)⟩) (PV (hP.sub (ws' := ([(a0, .inr (9, [g3, g4, g5, g6, g7, .ref a1, .int m_s.2.1, .int m_s.2.2.1, .int m_s.2.2.2.1, .int m_s.2.2.2.2.1, .int m_s.2.2.2.2.2.1, .int m_s.2.2.2.2.2.2.1, .int m_s.2.2.2.2.2.2.2.1, .int m_s.2.2.2.2.2.2.2.2.1, .long m_s.2.2.2.2.2.2.2.2.2, g8, g9, g10, g11, g12, g13, g14, g15, g16, g17, g18, g19, g20, g21, g22])), (a1, .inl (cB23, 900, .inl m_s.1))])) [0, 1] rfl) (hK.sub (tys' := ((cB23, .byte) :: [])) [0] rfl) (hD.sub (ws' := ([(a0, .inr (9, [g3, g4, g5, g6, g7, .ref a1, .int m_s.2.1, .int m_s.2.2.1, .int m_s.2.2.2.1, .int m_s.2.2.2.2.1, .int m_s.2.2.2.2.2.1, .int m_s.2.2.2.2.2.2.1, .int m_s.2.2.2.2.2.2.2.1, .int m_s.2.2.2.2.2.2.2.2.1, .long m_s.2.2.2.2.2.2.2.2.2, g8, g9, g10, g11, g12, g13, g14, g15, g16, g17, g18, g19, g20, g21, g22])), (a1, .inl (cB23, 900, .inl m_s.1))])) [0, 1] (by decide) rfl) hN 0 rfl rfl) rfl rfl hl.1 rfl (lv_room (Nat.le_of_ble_eq_true rfl)) dX12_eatsSemicolon_19 ⟨(Nat.le_of_ble_eq_true rfl), (Nat.le_of_ble_eq_true rfl)⟩) hP hD hK hS hA [0, 1] [] rfl rfl (by decide) (by decide) (fun _ H locs hw hP hD _ hS => ?_)
      have hP : va_P (dC, dI) vwCl ([(a0, .inr (9, [g3, g4, g5, g6, g7, .ref a1, .int o19.2.1, .int o19.2.2.1, .int o19.2.2.2.1, .int o19.2.2.2.2.1, .int o19.2.2.2.2.2.1, .int o19.2.2.2.2.2.2.1, .int o19.2.2.2.2.2.2.2.1, .int o19.2.2.2.2.2.2.2.2.1, .long o19.2.2.2.2.2.2.2.2.2, g8, g9, g10, g11, g12, g13, g14, g15, g16, g17, g18, g19, g20, g21, g22])), (a1, .inl (cB23, 900, .inl o19.1))]) H := hP
      have hD : va_D A ([(a0, .inr (9, [g3, g4, g5, g6, g7, .ref a1, .int o19.2.1, .int o19.2.2.1, .int o19.2.2.2.1, .int o19.2.2.2.2.1, .int o19.2.2.2.2.2.1, .int o19.2.2.2.2.2.2.1, .int o19.2.2.2.2.2.2.2.1, .int o19.2.2.2.2.2.2.2.2.1, .long o19.2.2.2.2.2.2.2.2.2, g8, g9, g10, g11, g12, g13, g14, g15, g16, g17, g18, g19, g20, g21, g22])), (a1, .inl (cB23, 900, .inl o19.1))]) := hD
      exact J22 o19 H _ ls h  hP hD hS (lv_sub hl [0] rfl)
  refine lv_icmp_ne (tgt := 12) hx hb dX12_eatsSemicolon_5 (by decide) (fun c5 => ?_) (fun c5 => ?_)
  · have h := (if_neg c5).symm.trans h
    refine lv_iconst (v := 0) hx hb dX12_eatsSemicolon_12 (by decide) ?_
    exact J13 (0 : Int32) s.heap _ ls h (by decide) hP hD hS (lv_sub hl [0] rfl)
  · have h := (if_pos c5).symm.trans h
    refine lv_iconst (v := 1) hx hb dX12_eatsSemicolon_8 (by decide) ?_
    refine lv_goto (tgt := 13) hx hb dX12_eatsSemicolon_9 (by decide) ?_
    exact J13 (1 : Int32) s.heap _ ls h (by decide) hP hD hS (lv_sub hl [0] rfl)
theorem dX12_needs_0 : decode cX12_needs 0 = .ok (.aload_n 0, 1) := by decide +kernel
theorem dX12_needs_1 : decode cX12_needs 1 = .ok (.aload_n 1, 1) := by decide +kernel
theorem dX12_needs_10 : decode cX12_needs 10 = .ok (.invokevirtual 111, 3) := by decide +kernel
theorem dX12_needs_13 : decode cX12_needs 13 = .ok (.aload_n 0, 1) := by decide +kernel
theorem dX12_needs_14 : decode cX12_needs 14 = .ok (.invokevirtual 104, 3) := by decide +kernel
theorem dX12_needs_17 : decode cX12_needs 17 = .ok (.return_, 1) := by decide +kernel
theorem dX12_needs_2 : decode cX12_needs 2 = .ok (.invokevirtual 107, 3) := by decide +kernel
theorem dX12_needs_5 : decode cX12_needs 5 = .ok (.ifCond .ne 8, 3) := by decide +kernel
theorem dX12_needs_8 : decode cX12_needs 8 = .ok (.aload_n 0, 1) := by decide +kernel
theorem dX12_needs_9 : decode cX12_needs 9 = .ok (.iconst 1, 1) := by decide +kernel
def vfX12_needs : List Cond := List.cons (.code yX12_needs cX12_needs 2 none) (apW [.methodLink RX12 107 yX12_isWord, .instanceMethod yX12_isWord, .selects RX12 yX12_isWord yX12_isWord, .initialized RX12, .methodLink RX12 104 yX12_goesOn, .instanceMethod yX12_goesOn, .selects RX12 yX12_goesOn yX12_goesOn, .methodLink RX12 111 yX12_flaw, .instanceMethod yX12_flaw, .selects RX12 yX12_flaw yX12_flaw] (apW vfX12_isWord (apW vfX12_goesOn (vfX12_flaw))))
theorem qfX12_needs : Good vfX12_needs := gd_cons (by decide +kernel) (gd_app (gd_dec (by decide +kernel) : Good [.methodLink RX12 107 yX12_isWord, .instanceMethod yX12_isWord, .selects RX12 yX12_isWord yX12_isWord, .initialized RX12, .methodLink RX12 104 yX12_goesOn, .instanceMethod yX12_goesOn, .selects RX12 yX12_goesOn yX12_goesOn, .methodLink RX12 111 yX12_flaw, .instanceMethod yX12_flaw, .selects RX12 yX12_flaw yX12_flaw]) (gd_app qfX12_isWord (gd_app qfX12_goesOn qfX12_flaw)))
theorem gfX12_needs_0 : GoodIn vfX12_needs (wsV RX12 107 RX12 yX12_isWord vfX12_isWord) := goodIn_app (goodIn_r [.methodLink RX12 107 yX12_isWord, .instanceMethod yX12_isWord, .selects RX12 yX12_isWord yX12_isWord, .initialized RX12] [1, 2, 3, 4] rfl (by decide +kernel)) (goodIn_m (fun _ h => (List.mem_cons_of_mem _ (List.mem_append_right _ (List.mem_append_left _ h)))) qfX12_isWord)
theorem gfX12_needs_1 : GoodIn vfX12_needs (wsV RX12 104 RX12 yX12_goesOn vfX12_goesOn) := goodIn_app (goodIn_r [.methodLink RX12 104 yX12_goesOn, .instanceMethod yX12_goesOn, .selects RX12 yX12_goesOn yX12_goesOn, .initialized RX12] [5, 6, 7, 4] rfl (by decide +kernel)) (goodIn_m (fun _ h => (List.mem_cons_of_mem _ (List.mem_append_right _ (List.mem_append_right _ (List.mem_append_left _ h))))) qfX12_goesOn)
theorem gfX12_needs_2 : GoodIn vfX12_needs (wsV RX12 111 RX12 yX12_flaw vfX12_flaw) := goodIn_app (goodIn_r [.methodLink RX12 111 yX12_flaw, .instanceMethod yX12_flaw, .selects RX12 yX12_flaw yX12_flaw, .initialized RX12] [8, 9, 10, 4] rfl (by decide +kernel)) (goodIn_m (fun _ h => (List.mem_cons_of_mem _ (List.mem_append_right _ (List.mem_append_right _ (List.mem_append_right _ h))))) qfX12_flaw)
set_option maxHeartbeats 2000000 in
set_option maxRecDepth 100000 in
theorem kfX12_needs (l : Launch) (dC : Nat → ClassId) (dI : Nat → Nat → Nat) (a0 : Nat) (a1 : Nat) (w1 : List Int32) (a3 : Nat) (m_s : TX12_s) (g5 : Value) (g6 : Value) (g7 : Value) (g8 : Value) (g9 : Value) (g10 : Value) (g11 : Value) (g12 : Value) (g13 : Value) (g14 : Value) (g15 : Value) (g16 : Value) (g17 : Value) (g18 : Value) (g19 : Value) (g20 : Value) (g21 : Value) (g22 : Value) (g23 : Value) (g24 : Value) (cB25 : ClassId) (sz : Nat) (B : Nat) (out : TX12_s) (h : f_X12_needs w1 m_s = some out) : Met l yX12_needs vfX12_needs ({ frames := 6, cells := 0, slots := 0, locals := 129 }) (PF (dC, dI) B [.ref a0, .ref a1] sz ([(a0, .inr (9, [g5, g6, g7, g8, g9, .ref a3, .int m_s.2.1, .int m_s.2.2.1, .int m_s.2.2.2.1, .int m_s.2.2.2.2.1, .int m_s.2.2.2.2.2.1, .int m_s.2.2.2.2.2.2.1, .int m_s.2.2.2.2.2.2.2.1, .int m_s.2.2.2.2.2.2.2.2.1, .long m_s.2.2.2.2.2.2.2.2.2, g10, g11, g12, g13, g14, g15, g16, g17, g18, g19, g20, g21, g22, g23, g24])), (a3, .inl (cB25, 900, .inl m_s.1))]) ((cB25, .byte) :: []) [(a1, w1)]) (va_Qv (S := Unit) (fun _ => True) (fun _ t => BC (dC, dI) (va_A ([(a0, .inr (9, [g5, g6, g7, g8, g9, .ref a3, .int m_s.2.1, .int m_s.2.2.1, .int m_s.2.2.2.1, .int m_s.2.2.2.2.1, .int m_s.2.2.2.2.2.1, .int m_s.2.2.2.2.2.2.1, .int m_s.2.2.2.2.2.2.2.1, .int m_s.2.2.2.2.2.2.2.2.1, .long m_s.2.2.2.2.2.2.2.2.2, g10, g11, g12, g13, g14, g15, g16, g17, g18, g19, g20, g21, g22, g23, g24])), (a3, .inl (cB25, 900, .inl m_s.1))]) sz) ([(a0, .inr (9, [g5, g6, g7, g8, g9, .ref a3, .int out.2.1, .int out.2.2.1, .int out.2.2.2.1, .int out.2.2.2.2.1, .int out.2.2.2.2.2.1, .int out.2.2.2.2.2.2.1, .int out.2.2.2.2.2.2.2.1, .int out.2.2.2.2.2.2.2.2.1, .long out.2.2.2.2.2.2.2.2.2, g10, g11, g12, g13, g14, g15, g16, g17, g18, g19, g20, g21, g22, g23, g24])), (a3, .inl (cB25, 900, .inl out.1))]) [] t) (va_A ([(a0, .inr (9, [g5, g6, g7, g8, g9, .ref a3, .int m_s.2.1, .int m_s.2.2.1, .int m_s.2.2.2.1, .int m_s.2.2.2.2.1, .int m_s.2.2.2.2.2.1, .int m_s.2.2.2.2.2.2.1, .int m_s.2.2.2.2.2.2.2.1, .int m_s.2.2.2.2.2.2.2.2.1, .long m_s.2.2.2.2.2.2.2.2.2, g10, g11, g12, g13, g14, g15, g16, g17, g18, g19, g20, g21, g22, g23, g24])), (a3, .inl (cB25, 900, .inl m_s.1))]) sz)) 0 0 (va_A ([(a0, .inr (9, [g5, g6, g7, g8, g9, .ref a3, .int m_s.2.1, .int m_s.2.2.1, .int m_s.2.2.2.1, .int m_s.2.2.2.2.1, .int m_s.2.2.2.2.2.1, .int m_s.2.2.2.2.2.2.1, .int m_s.2.2.2.2.2.2.2.1, .int m_s.2.2.2.2.2.2.2.2.1, .long m_s.2.2.2.2.2.2.2.2.2, g10, g11, g12, g13, g14, g15, g16, g17, g18, g19, g20, g21, g22, g23, g24])), (a3, .inl (cB25, 900, .inl m_s.1))]) sz) := by
  refine Met.ofW (cc := cX12_needs) (maxL := 2) (ret := none) (by decide) rfl ?_
  intro p e s m args below meth c s₁ B0 hml hv
  obtain ⟨rfl, hsz, hP, hK, hD0, hN, hBs, hE, hX⟩ := hv
  have hBA := PF_reg hD0 hBs
  have xs1 : S1 B a1 w1 s := hX (a1, w1) (List.mem_of_getElem? (i := 0) rfl)
  have hx := B0.exec
  have hb := B0.bytes
  have hr := B0.returns
  have hts := atoms_spec (ws := vfX12_needs) B0.pre
  have hown : s.vm.findClass RX12 = some m.cls := findClass_of_methodNamed B0.named
  have hlocks := B0.notSynchronized
  subst hsz
  have hD := hD0.self (sz := s.heap.size)
  generalize hAe : va_A ([(a0, .inr (9, [g5, g6, g7, g8, g9, .ref a3, .int m_s.2.1, .int m_s.2.2.1, .int m_s.2.2.2.1, .int m_s.2.2.2.2.1, .int m_s.2.2.2.2.2.1, .int m_s.2.2.2.2.2.2.1, .int m_s.2.2.2.2.2.2.2.1, .int m_s.2.2.2.2.2.2.2.2.1, .long m_s.2.2.2.2.2.2.2.2.2, g10, g11, g12, g13, g14, g15, g16, g17, g18, g19, g20, g21, g22, g23, g24])), (a3, .inl (cB25, 900, .inl m_s.1))]) s.heap.size = A at hD hBA ⊢
  have hA : ∀ q : Nat, s.heap.size ≤ q → A q := fun q h => by rw [← hAe]; exact Or.inr h
  have hS : va_S A s.heap s.heap [] := va_S.rf
  have hP : va_P (dC, dI) vwCl ([(a0, .inr (9, [g5, g6, g7, g8, g9, .ref a3, .int m_s.2.1, .int m_s.2.2.1, .int m_s.2.2.2.1, .int m_s.2.2.2.2.1, .int m_s.2.2.2.2.2.1, .int m_s.2.2.2.2.2.2.1, .int m_s.2.2.2.2.2.2.2.1, .int m_s.2.2.2.2.2.2.2.2.1, .long m_s.2.2.2.2.2.2.2.2.2, g10, g11, g12, g13, g14, g15, g16, g17, g18, g19, g20, g21, g22, g23, g24])), (a3, .inl (cB25, 900, .inl m_s.1))]) s.heap := hP
  have hl := lv_entry ([.ref a0, .ref a1]) (n := 2) (Nat.le_of_ble_eq_true rfl)
  rw [lg_entry_eq]
  generalize (lg_sl ([.ref a0, .ref a1]) ++ List.replicate (2 - (lg_sl ([.ref a0, .ref a1])).length) Slot.unset).toArray = ls at hl ⊢
  have hl : lv_has ls 2 [(0, .ref a0), (1, .ref a1)] := hl
  have hB : RB B s A := ⟨hBA, hBs⟩
  refine W_q (fun QQ hQQ => ?_)
  rw [f_X12_needs] at h
  refine lv_aload_n hx hb dX12_needs_0 rfl (lv_at hl 0 rfl) ?_
  refine lv_aload_n hx hb dX12_needs_1 rfl (lv_at hl 1 rfl) ?_
  obtain ⟨o2, eo2, h⟩ := bd_of h
  refine cl_i (wc := ([(a0, .inr (9, [g5, g6, g7, g8, g9, .ref a3, .int m_s.2.1, .int m_s.2.2.1, .int m_s.2.2.2.1, .int m_s.2.2.2.2.1, .int m_s.2.2.2.2.2.1, .int m_s.2.2.2.2.2.2.1, .int m_s.2.2.2.2.2.2.2.1, .int m_s.2.2.2.2.2.2.2.2.1, .long m_s.2.2.2.2.2.2.2.2.2, g10, g11, g12, g13, g14, g15, g16, g17, g18, g19, g20, g21, g22, g23, g24])), (a3, .inl (cB25, 900, .inl m_s.1))])) (wr := []) (va_runV (As := [.ref a1]) (rest := []) ⟨hx, hb, hml, hown, hts⟩ (kfX12_isWord l dC dI a0 a1 w1 a3 m_s (g5) (g6) (g7) (g8) (g9) (g10) (g11) (g12) (g13) (g14) (g15) (g16) (g17) (g18) (g19) (g20) (g21) (g22) (g23) (g24) cB25 s.heap.size B o2 eo2) (cwV 1 hts gfX12_needs_0 rfl rfl rfl (by decide +kernel) ⟨(Nat.le_of_ble_eq_true rfl), (Nat.le_of_ble_eq_true rfl)⟩) (PVF (hP.sub (ws' := ([(a0, .inr (9, [g5, g6, g7, g8, g9, .ref a3, .int m_s.2.1, .int m_s.2.2.1, .int m_s.2.2.2.1, .int m_s.2.2.2.2.1, .int m_s.2.2.2.2.2.1, .int m_s.2.2.2.2.2.2.1, .int m_s.2.2.2.2.2.2.2.1, .int m_s.2.2.2.2.2.2.2.2.1, .long m_s.2.2.2.2.2.2.2.2.2, g10, g11, g12, g13, g14, g15, g16, g17, g18, g19, g20, g21, g22, g23, g24])), (a3, .inl (cB25, 900, .inl m_s.1))])) [0, 1] rfl) (hK.sub (tys' := ((cB25, .byte) :: [])) [0] rfl) (hD.sub (ws' := ([(a0, .inr (9, [g5, g6, g7, g8, g9, .ref a3, .int m_s.2.1, .int m_s.2.2.1, .int m_s.2.2.2.1, .int m_s.2.2.2.2.1, .int m_s.2.2.2.2.2.1, .int m_s.2.2.2.2.2.2.1, .int m_s.2.2.2.2.2.2.2.1, .int m_s.2.2.2.2.2.2.2.2.1, .long m_s.2.2.2.2.2.2.2.2.2, g10, g11, g12, g13, g14, g15, g16, g17, g18, g19, g20, g21, g22, g23, g24])), (a3, .inl (cB25, 900, .inl m_s.1))])) [0, 1] (by decide) rfl) hN hS hB hE (S1c xs1 S1n) 0 rfl rfl) rfl rfl hl.1 rfl (lv_room (Nat.le_of_ble_eq_true rfl)) dX12_needs_2 ⟨(Nat.le_of_ble_eq_true rfl), (Nat.le_of_ble_eq_true rfl)⟩) hP hD hK hS hA [0, 1] [] rfl rfl (by decide) (by decide) (fun r2 _ H locs hw hP hD _ hS => ?_)
  obtain ⟨hw, br2⟩ := hw
  obtain rfl := hw.symm
  have hP : va_P (dC, dI) vwCl ([(a0, .inr (9, [g5, g6, g7, g8, g9, .ref a3, .int m_s.2.1, .int m_s.2.2.1, .int m_s.2.2.2.1, .int m_s.2.2.2.2.1, .int m_s.2.2.2.2.2.1, .int m_s.2.2.2.2.2.2.1, .int m_s.2.2.2.2.2.2.2.1, .int m_s.2.2.2.2.2.2.2.2.1, .long m_s.2.2.2.2.2.2.2.2.2, g10, g11, g12, g13, g14, g15, g16, g17, g18, g19, g20, g21, g22, g23, g24])), (a3, .inl (cB25, 900, .inl m_s.1))]) H := hP
  have hD : va_D A ([(a0, .inr (9, [g5, g6, g7, g8, g9, .ref a3, .int m_s.2.1, .int m_s.2.2.1, .int m_s.2.2.2.1, .int m_s.2.2.2.2.1, .int m_s.2.2.2.2.2.1, .int m_s.2.2.2.2.2.2.1, .int m_s.2.2.2.2.2.2.2.1, .int m_s.2.2.2.2.2.2.2.2.1, .long m_s.2.2.2.2.2.2.2.2.2, g10, g11, g12, g13, g14, g15, g16, g17, g18, g19, g20, g21, g22, g23, g24])), (a3, .inl (cB25, 900, .inl m_s.1))]) := hD
  have J13 : ∀ (v13_m_s : TX12_s) (H : Heap) (locs : List Loc) (ls : Array Slot), f_X12_needs_J13 v13_m_s = some out → va_P (dC, dI) vwCl ([(a0, .inr (9, [g5, g6, g7, g8, g9, .ref a3, .int v13_m_s.2.1, .int v13_m_s.2.2.1, .int v13_m_s.2.2.2.1, .int v13_m_s.2.2.2.2.1, .int v13_m_s.2.2.2.2.2.1, .int v13_m_s.2.2.2.2.2.2.1, .int v13_m_s.2.2.2.2.2.2.2.1, .int v13_m_s.2.2.2.2.2.2.2.2.1, .long v13_m_s.2.2.2.2.2.2.2.2.2, g10, g11, g12, g13, g14, g15, g16, g17, g18, g19, g20, g21, g22, g23, g24])), (a3, .inl (cB25, 900, .inl v13_m_s.1))]) H → va_D A ([(a0, .inr (9, [g5, g6, g7, g8, g9, .ref a3, .int v13_m_s.2.1, .int v13_m_s.2.2.1, .int v13_m_s.2.2.2.1, .int v13_m_s.2.2.2.2.1, .int v13_m_s.2.2.2.2.2.1, .int v13_m_s.2.2.2.2.2.2.1, .int v13_m_s.2.2.2.2.2.2.2.1, .int v13_m_s.2.2.2.2.2.2.2.2.1, .long v13_m_s.2.2.2.2.2.2.2.2.2, g10, g11, g12, g13, g14, g15, g16, g17, g18, g19, g20, g21, g22, g23, g24])), (a3, .inl (cB25, 900, .inl v13_m_s.1))]) → va_S A s.heap H locs → lv_has ls 2 [(0, .ref a0)] → W p l e (headSpec vfX12_needs { frames := 6, cells := 0, slots := 0, locals := 129 }).room s m ([.ref a0, .ref a1]).toArray below meth c H locs 0 0 QQ (F0 m 13 ls []) := by
    intro v13_m_s H locs ls h  hP hD hS hl
    rw [f_X12_needs_J13] at h
    refine lv_aload_n hx hb dX12_needs_13 rfl (lv_at hl 0 rfl) ?_
    obtain ⟨o14, eo14, h⟩ := bd_of h
    refine cl_v (wc := ([(a0, .inr (9, [g5, g6, g7, g8, g9, .ref a3, .int v13_m_s.2.1, .int v13_m_s.2.2.1, .int v13_m_s.2.2.2.1, .int v13_m_s.2.2.2.2.1, .int v13_m_s.2.2.2.2.2.1, .int v13_m_s.2.2.2.2.2.2.1, .int v13_m_s.2.2.2.2.2.2.2.1, .int v13_m_s.2.2.2.2.2.2.2.2.1, .long v13_m_s.2.2.2.2.2.2.2.2.2, g10, g11, g12, g13, g14, g15, g16, g17, g18, g19, g20, g21, g22, g23, g24])), (a3, .inl (cB25, 900, .inl v13_m_s.1))])) (wr := []) (va_runV (As := []) (rest := []) ⟨hx, hb, hml, hown, hts⟩ (kfX12_goesOn l dC dI a0 a3 v13_m_s (g5) (g6) (g7) (g8) (g9) (g10) (g11) (g12) (g13) (g14) (g15) (g16) (g17) (g18) (g19) (g20) (g21) (g22) (g23) (g24) cB25 H.size o14 eo14) (cwV 0 hts gfX12_needs_1 rfl rfl rfl (by decide +kernel) ⟨(Nat.le_of_ble_eq_true rfl), (Nat.le_of_ble_eq_true rfl)⟩) (PV (hP.sub (ws' := ([(a0, .inr (9, [g5, g6, g7, g8, g9, .ref a3, .int v13_m_s.2.1, .int v13_m_s.2.2.1, .int v13_m_s.2.2.2.1, .int v13_m_s.2.2.2.2.1, .int v13_m_s.2.2.2.2.2.1, .int v13_m_s.2.2.2.2.2.2.1, .int v13_m_s.2.2.2.2.2.2.2.1, .int v13_m_s.2.2.2.2.2.2.2.2.1, .long v13_m_s.2.2.2.2.2.2.2.2.2, g10, g11, g12, g13, g14, g15, g16, g17, g18, g19, g20, g21, g22, g23, g24])), (a3, .inl (cB25, 900, .inl v13_m_s.1))])) [0, 1] rfl) (hK.sub (tys' := ((cB25, .byte) :: [])) [0] rfl) (hD.sub (ws' := ([(a0, .inr (9, [g5, g6, g7, g8, g9, .ref a3, .int v13_m_s.2.1, .int v13_m_s.2.2.1, .int v13_m_s.2.2.2.1, .int v13_m_s.2.2.2.2.1, .int v13_m_s.2.2.2.2.2.1, .int v13_m_s.2.2.2.2.2.2.1, .int v13_m_s.2.2.2.2.2.2.2.1, .int v13_m_s.2.2.2.2.2.2.2.2.1, .long v13_m_s.2.2.2.2.2.2.2.2.2, g10, g11, g12, g13, g14, g15, g16, g17, g18, g19, g20, g21, g22, g23, g24])), (a3, .inl (cB25, 900, .inl v13_m_s.1))])) [0, 1] (by decide) rfl) hN 0 rfl rfl) rfl rfl hl.1 rfl (lv_room (Nat.le_of_ble_eq_true rfl)) dX12_needs_14 ⟨(Nat.le_of_ble_eq_true rfl), (Nat.le_of_ble_eq_true rfl)⟩) hP hD hK hS hA [0, 1] [] rfl rfl (by decide) (by decide) (fun _ H locs hw hP hD _ hS => ?_)
    have hP : va_P (dC, dI) vwCl ([(a0, .inr (9, [g5, g6, g7, g8, g9, .ref a3, .int o14.2.1, .int o14.2.2.1, .int o14.2.2.2.1, .int o14.2.2.2.2.1, .int o14.2.2.2.2.2.1, .int o14.2.2.2.2.2.2.1, .int o14.2.2.2.2.2.2.2.1, .int o14.2.2.2.2.2.2.2.2.1, .long o14.2.2.2.2.2.2.2.2.2, g10, g11, g12, g13, g14, g15, g16, g17, g18, g19, g20, g21, g22, g23, g24])), (a3, .inl (cB25, 900, .inl o14.1))]) H := hP
    have hD : va_D A ([(a0, .inr (9, [g5, g6, g7, g8, g9, .ref a3, .int o14.2.1, .int o14.2.2.1, .int o14.2.2.2.1, .int o14.2.2.2.2.1, .int o14.2.2.2.2.2.1, .int o14.2.2.2.2.2.2.1, .int o14.2.2.2.2.2.2.2.1, .int o14.2.2.2.2.2.2.2.2.1, .long o14.2.2.2.2.2.2.2.2.2, g10, g11, g12, g13, g14, g15, g16, g17, g18, g19, g20, g21, g22, g23, g24])), (a3, .inl (cB25, 900, .inl o14.1))]) := hD
    obtain rfl := Option.some.inj h
    have hP9 := hP.sub (ws' := ([(a0, .inr (9, [g5, g6, g7, g8, g9, .ref a3, .int o14.2.1, .int o14.2.2.1, .int o14.2.2.2.1, .int o14.2.2.2.2.1, .int o14.2.2.2.2.2.1, .int o14.2.2.2.2.2.2.1, .int o14.2.2.2.2.2.2.2.1, .int o14.2.2.2.2.2.2.2.2.1, .long o14.2.2.2.2.2.2.2.2.2, g10, g11, g12, g13, g14, g15, g16, g17, g18, g19, g20, g21, g22, g23, g24])), (a3, .inl (cB25, 900, .inl o14.1))])) [0, 1] rfl
    have hD9 := hD.sub (ws' := ([(a0, .inr (9, [g5, g6, g7, g8, g9, .ref a3, .int o14.2.1, .int o14.2.2.1, .int o14.2.2.2.1, .int o14.2.2.2.2.1, .int o14.2.2.2.2.2.1, .int o14.2.2.2.2.2.2.1, .int o14.2.2.2.2.2.2.2.1, .int o14.2.2.2.2.2.2.2.2.1, .long o14.2.2.2.2.2.2.2.2.2, g10, g11, g12, g13, g14, g15, g16, g17, g18, g19, g20, g21, g22, g23, g24])), (a3, .inl (cB25, 900, .inl o14.1))])) [0, 1] (by decide) rfl
    have hK9 := hK.sub (tys' := []) [] rfl
    rw [hQQ]
    exact W.vret hx hb hr (fun t ht hW => ⟨⟨(), rfl, trivial, by rw [ht]; exact hP9, va_K.moved hW.alike hK9, hD9⟩, hS.F ht⟩) hS.2.2 dX12_needs_17
  refine lv_if_ne (tgt := 13) hx hb dX12_needs_5 (by decide) (fun c5 => ?_) (fun c5 => ?_)
  · have h := (if_neg c5).symm.trans h
    exact J13 m_s H _ ls h  hP hD hS (lv_sub hl [0] rfl)
  · have h := (if_pos c5).symm.trans h
    refine lv_aload_n hx hb dX12_needs_8 rfl (lv_at hl 0 rfl) ?_
    refine lv_iconst (v := 1) hx hb dX12_needs_9 (by decide) ?_
    obtain ⟨o10, eo10⟩ : ∃ o, o = f_X12_flaw (1 : Int32) m_s := ⟨_, rfl⟩
    have h := nm_of h o10 eo10
    refine cl_v (wc := ([(a0, .inr (9, [g5, g6, g7, g8, g9, .ref a3, .int m_s.2.1, .int m_s.2.2.1, .int m_s.2.2.2.1, .int m_s.2.2.2.2.1, .int m_s.2.2.2.2.2.1, .int m_s.2.2.2.2.2.2.1, .int m_s.2.2.2.2.2.2.2.1, .int m_s.2.2.2.2.2.2.2.2.1, .long m_s.2.2.2.2.2.2.2.2.2, g10, g11, g12, g13, g14, g15, g16, g17, g18, g19, g20, g21, g22, g23, g24])), (a3, .inl (cB25, 900, .inl m_s.1))])) (wr := []) (va_runV (As := [.int 1]) (rest := []) ⟨hx, hb, hml, hown, hts⟩ (kfX12_flaw l dC dI a0 (1 : Int32) a3 m_s (g5) (g6) (g7) (g8) (g9) (g10) (g11) (g12) (g13) (g14) (g15) (g16) (g17) (g18) (g19) (g20) (g21) (g22) (g23) (g24) cB25 H.size o10 eo10.symm) (cwV 1 hts gfX12_needs_2 rfl rfl rfl (by decide +kernel) ⟨(Nat.le_of_ble_eq_true rfl), (Nat.le_of_ble_eq_true rfl)⟩) (PV (hP.sub (ws' := ([(a0, .inr (9, [g5, g6, g7, g8, g9, .ref a3, .int m_s.2.1, .int m_s.2.2.1, .int m_s.2.2.2.1, .int m_s.2.2.2.2.1, .int m_s.2.2.2.2.2.1, .int m_s.2.2.2.2.2.2.1, .int m_s.2.2.2.2.2.2.2.1, .int m_s.2.2.2.2.2.2.2.2.1, .long m_s.2.2.2.2.2.2.2.2.2, g10, g11, g12, g13, g14, g15, g16, g17, g18, g19, g20, g21, g22, g23, g24])), (a3, .inl (cB25, 900, .inl m_s.1))])) [0, 1] rfl) (hK.sub (tys' := ((cB25, .byte) :: [])) [0] rfl) (hD.sub (ws' := ([(a0, .inr (9, [g5, g6, g7, g8, g9, .ref a3, .int m_s.2.1, .int m_s.2.2.1, .int m_s.2.2.2.1, .int m_s.2.2.2.2.1, .int m_s.2.2.2.2.2.1, .int m_s.2.2.2.2.2.2.1, .int m_s.2.2.2.2.2.2.2.1, .int m_s.2.2.2.2.2.2.2.2.1, .long m_s.2.2.2.2.2.2.2.2.2, g10, g11, g12, g13, g14, g15, g16, g17, g18, g19, g20, g21, g22, g23, g24])), (a3, .inl (cB25, 900, .inl m_s.1))])) [0, 1] (by decide) rfl) hN 0 rfl rfl) rfl rfl hl.1 rfl (lv_room (Nat.le_of_ble_eq_true rfl)) dX12_needs_10 ⟨(Nat.le_of_ble_eq_true rfl), (Nat.le_of_ble_eq_true rfl)⟩) hP hD hK hS hA [0, 1] [] rfl rfl (by decide) (by decide) (fun _ H locs hw hP hD _ hS => ?_)
    have hP : va_P (dC, dI) vwCl ([(a0, .inr (9, [g5, g6, g7, g8, g9, .ref a3, .int o10.2.1, .int o10.2.2.1, .int o10.2.2.2.1, .int o10.2.2.2.2.1, .int o10.2.2.2.2.2.1, .int o10.2.2.2.2.2.2.1, .int o10.2.2.2.2.2.2.2.1, .int o10.2.2.2.2.2.2.2.2.1, .long o10.2.2.2.2.2.2.2.2.2, g10, g11, g12, g13, g14, g15, g16, g17, g18, g19, g20, g21, g22, g23, g24])), (a3, .inl (cB25, 900, .inl o10.1))]) H := hP
    have hD : va_D A ([(a0, .inr (9, [g5, g6, g7, g8, g9, .ref a3, .int o10.2.1, .int o10.2.2.1, .int o10.2.2.2.1, .int o10.2.2.2.2.1, .int o10.2.2.2.2.2.1, .int o10.2.2.2.2.2.2.1, .int o10.2.2.2.2.2.2.2.1, .int o10.2.2.2.2.2.2.2.2.1, .long o10.2.2.2.2.2.2.2.2.2, g10, g11, g12, g13, g14, g15, g16, g17, g18, g19, g20, g21, g22, g23, g24])), (a3, .inl (cB25, 900, .inl o10.1))]) := hD
    exact J13 o10 H _ ls h  hP hD hS (lv_sub hl [0] rfl)
theorem dX12_readWhole_0 : decode cX12_readWhole 0 = .ok (.aload_n 0, 1) := by decide +kernel
theorem dX12_readWhole_1 : decode cX12_readWhole 1 = .ok (.getfield 68, 3) := by decide +kernel
theorem dX12_readWhole_10 : decode cX12_readWhole 10 = .ok (.invokevirtual 111, 3) := by decide +kernel
theorem dX12_readWhole_13 : decode cX12_readWhole 13 = .ok (.goto 20, 3) := by decide +kernel
theorem dX12_readWhole_16 : decode cX12_readWhole 16 = .ok (.aload_n 0, 1) := by decide +kernel
theorem dX12_readWhole_17 : decode cX12_readWhole 17 = .ok (.getfield 91, 3) := by decide +kernel
theorem dX12_readWhole_20 : decode cX12_readWhole 20 = .ok (.iload_n 1, 1) := by decide +kernel
theorem dX12_readWhole_21 : decode cX12_readWhole 21 = .ok (.iload_n 2, 1) := by decide +kernel
theorem dX12_readWhole_22 : decode cX12_readWhole 22 = .ok (.invokestatic 115, 3) := by decide +kernel
theorem dX12_readWhole_25 : decode cX12_readWhole 25 = .ok (.ifCond .ne 8, 3) := by decide +kernel
theorem dX12_readWhole_28 : decode cX12_readWhole 28 = .ok (.aload_n 0, 1) := by decide +kernel
theorem dX12_readWhole_29 : decode cX12_readWhole 29 = .ok (.iconst 4, 1) := by decide +kernel
theorem dX12_readWhole_30 : decode cX12_readWhole 30 = .ok (.invokevirtual 111, 3) := by decide +kernel
theorem dX12_readWhole_33 : decode cX12_readWhole 33 = .ok (.aload_n 0, 1) := by decide +kernel
theorem dX12_readWhole_34 : decode cX12_readWhole 34 = .ok (.getfield 68, 3) := by decide +kernel
theorem dX12_readWhole_37 : decode cX12_readWhole 37 = .ok (.iconst 5, 1) := by decide +kernel
theorem dX12_readWhole_38 : decode cX12_readWhole 38 = .ok (.if_icmp .ne 7, 3) := by decide +kernel
theorem dX12_readWhole_4 : decode cX12_readWhole 4 = .ok (.iconst 3, 1) := by decide +kernel
theorem dX12_readWhole_41 : decode cX12_readWhole 41 = .ok (.iload_n 1, 1) := by decide +kernel
theorem dX12_readWhole_42 : decode cX12_readWhole 42 = .ok (.goto 7, 3) := by decide +kernel
theorem dX12_readWhole_45 : decode cX12_readWhole 45 = .ok (.aload_n 0, 1) := by decide +kernel
theorem dX12_readWhole_46 : decode cX12_readWhole 46 = .ok (.getfield 91, 3) := by decide +kernel
theorem dX12_readWhole_49 : decode cX12_readWhole 49 = .ok (.istore_n 3, 1) := by decide +kernel
theorem dX12_readWhole_5 : decode cX12_readWhole 5 = .ok (.if_icmp .eq 11, 3) := by decide +kernel
theorem dX12_readWhole_50 : decode cX12_readWhole 50 = .ok (.aload_n 0, 1) := by decide +kernel
theorem dX12_readWhole_51 : decode cX12_readWhole 51 = .ok (.invokevirtual 104, 3) := by decide +kernel
theorem dX12_readWhole_54 : decode cX12_readWhole 54 = .ok (.iload_n 3, 1) := by decide +kernel
theorem dX12_readWhole_55 : decode cX12_readWhole 55 = .ok (.ireturn, 1) := by decide +kernel
theorem dX12_readWhole_8 : decode cX12_readWhole 8 = .ok (.aload_n 0, 1) := by decide +kernel
theorem dX12_readWhole_9 : decode cX12_readWhole 9 = .ok (.iconst 1, 1) := by decide +kernel
def vfX12_readWhole : List Cond := List.cons (.code yX12_readWhole cX12_readWhole 4 (some .int)) (apW [.fieldLink RX12 68 "HookPierModel" "sort" "I", .methodLink RX12 104 yX12_goesOn, .instanceMethod yX12_goesOn, .selects RX12 yX12_goesOn yX12_goesOn, .initialized RX12, .fieldLink RX12 91 "HookPierModel" "number" "I", .methodLink RX12 115 yX12_in, .static yX12_in, .methodLink RX12 111 yX12_flaw, .instanceMethod yX12_flaw, .selects RX12 yX12_flaw yX12_flaw] (apW wsX120 (apW vfX12_goesOn (apW vfX12_in (vfX12_flaw)))))
theorem ifX12_readWhole_X12 : ∀ w ∈ wsX120, w ∈ vfX12_readWhole := fun _ h => (List.mem_cons_of_mem _ (List.mem_append_right _ (List.mem_append_left _ h)))
theorem qfX12_readWhole : Good vfX12_readWhole := gd_cons (by decide +kernel) (gd_app (gd_dec (by decide +kernel) : Good [.fieldLink RX12 68 "HookPierModel" "sort" "I", .methodLink RX12 104 yX12_goesOn, .instanceMethod yX12_goesOn, .selects RX12 yX12_goesOn yX12_goesOn, .initialized RX12, .fieldLink RX12 91 "HookPierModel" "number" "I", .methodLink RX12 115 yX12_in, .static yX12_in, .methodLink RX12 111 yX12_flaw, .instanceMethod yX12_flaw, .selects RX12 yX12_flaw yX12_flaw]) (gd_app qsX12 (gd_app qfX12_goesOn (gd_app qfX12_in qfX12_flaw))))
theorem gfX12_readWhole_0 : GoodIn vfX12_readWhole (wsV RX12 104 RX12 yX12_goesOn vfX12_goesOn) := goodIn_app (goodIn_r [.methodLink RX12 104 yX12_goesOn, .instanceMethod yX12_goesOn, .selects RX12 yX12_goesOn yX12_goesOn, .initialized RX12] [2, 3, 4, 5] rfl (by decide +kernel)) (goodIn_m (fun _ h => (List.mem_cons_of_mem _ (List.mem_append_right _ (List.mem_append_right _ (List.mem_append_left _ h))))) qfX12_goesOn)
theorem gfX12_readWhole_1 : GoodIn vfX12_readWhole (va_wsS RX12 115 yX12_in vfX12_in) := goodIn_app (goodIn_r [.methodLink RX12 115 yX12_in, .static yX12_in, .initialized RX12] [7, 8, 5] rfl (by decide +kernel)) (goodIn_m (fun _ h => (List.mem_cons_of_mem _ (List.mem_append_right _ (List.mem_append_right _ (List.mem_append_right _ (List.mem_append_left _ h)))))) qfX12_in)
theorem gfX12_readWhole_2 : GoodIn vfX12_readWhole (wsV RX12 111 RX12 yX12_flaw vfX12_flaw) := goodIn_app (goodIn_r [.methodLink RX12 111 yX12_flaw, .instanceMethod yX12_flaw, .selects RX12 yX12_flaw yX12_flaw, .initialized RX12] [9, 10, 11, 5] rfl (by decide +kernel)) (goodIn_m (fun _ h => (List.mem_cons_of_mem _ (List.mem_append_right _ (List.mem_append_right _ (List.mem_append_right _ (List.mem_append_right _ h)))))) qfX12_flaw)
set_option maxHeartbeats 2000000 in
set_option maxRecDepth 100000 in
theorem kfX12_readWhole (l : Launch) (dC : Nat → ClassId) (dI : Nat → Nat → Nat) (a0 : Nat) (k1 : Int32) (k2 : Int32) (a3 : Nat) (m_s : TX12_s) (g5 : Value) (g6 : Value) (g7 : Value) (g8 : Value) (g9 : Value) (g10 : Value) (g11 : Value) (g12 : Value) (g13 : Value) (g14 : Value) (g15 : Value) (g16 : Value) (g17 : Value) (g18 : Value) (g19 : Value) (g20 : Value) (g21 : Value) (g22 : Value) (g23 : Value) (g24 : Value) (cB25 : ClassId) (sz : Nat) (out : (Int32 × TX12_s)) (h : f_X12_readWhole k1 k2 m_s = some out) : Met l yX12_readWhole vfX12_readWhole ({ frames := 2, cells := 0, slots := 0, locals := 43 }) (PC (dC, dI) [.ref a0, .int k1, .int k2] sz ([(a0, .inr (9, [g5, g6, g7, g8, g9, .ref a3, .int m_s.2.1, .int m_s.2.2.1, .int m_s.2.2.2.1, .int m_s.2.2.2.2.1, .int m_s.2.2.2.2.2.1, .int m_s.2.2.2.2.2.2.1, .int m_s.2.2.2.2.2.2.2.1, .int m_s.2.2.2.2.2.2.2.2.1, .long m_s.2.2.2.2.2.2.2.2.2, g10, g11, g12, g13, g14, g15, g16, g17, g18, g19, g20, g21, g22, g23, g24])), (a3, .inl (cB25, 900, .inl m_s.1))]) ((cB25, .byte) :: [])) (va_Qi (S := Unit) (fun (r : Int32) _ => r = out.1) (fun _ t => BC (dC, dI) (va_A ([(a0, .inr (9, [g5, g6, g7, g8, g9, .ref a3, .int m_s.2.1, .int m_s.2.2.1, .int m_s.2.2.2.1, .int m_s.2.2.2.2.1, .int m_s.2.2.2.2.2.1, .int m_s.2.2.2.2.2.2.1, .int m_s.2.2.2.2.2.2.2.1, .int m_s.2.2.2.2.2.2.2.2.1, .long m_s.2.2.2.2.2.2.2.2.2, g10, g11, g12, g13, g14, g15, g16, g17, g18, g19, g20, g21, g22, g23, g24])), (a3, .inl (cB25, 900, .inl m_s.1))]) sz) ([(a0, .inr (9, [g5, g6, g7, g8, g9, .ref a3, .int out.2.2.1, .int out.2.2.2.1, .int out.2.2.2.2.1, .int out.2.2.2.2.2.1, .int out.2.2.2.2.2.2.1, .int out.2.2.2.2.2.2.2.1, .int out.2.2.2.2.2.2.2.2.1, .int out.2.2.2.2.2.2.2.2.2.1, .long out.2.2.2.2.2.2.2.2.2.2, g10, g11, g12, g13, g14, g15, g16, g17, g18, g19, g20, g21, g22, g23, g24])), (a3, .inl (cB25, 900, .inl out.2.1))]) [] t) (va_A ([(a0, .inr (9, [g5, g6, g7, g8, g9, .ref a3, .int m_s.2.1, .int m_s.2.2.1, .int m_s.2.2.2.1, .int m_s.2.2.2.2.1, .int m_s.2.2.2.2.2.1, .int m_s.2.2.2.2.2.2.1, .int m_s.2.2.2.2.2.2.2.1, .int m_s.2.2.2.2.2.2.2.2.1, .long m_s.2.2.2.2.2.2.2.2.2, g10, g11, g12, g13, g14, g15, g16, g17, g18, g19, g20, g21, g22, g23, g24])), (a3, .inl (cB25, 900, .inl m_s.1))]) sz)) 0 0 (va_A ([(a0, .inr (9, [g5, g6, g7, g8, g9, .ref a3, .int m_s.2.1, .int m_s.2.2.1, .int m_s.2.2.2.1, .int m_s.2.2.2.2.1, .int m_s.2.2.2.2.2.1, .int m_s.2.2.2.2.2.2.1, .int m_s.2.2.2.2.2.2.2.1, .int m_s.2.2.2.2.2.2.2.2.1, .long m_s.2.2.2.2.2.2.2.2.2, g10, g11, g12, g13, g14, g15, g16, g17, g18, g19, g20, g21, g22, g23, g24])), (a3, .inl (cB25, 900, .inl m_s.1))]) sz) := by
  refine Met.ofW (cc := cX12_readWhole) (maxL := 4) (ret := (some .int)) (by decide) rfl ?_
  intro p e s m args below meth c s₁ B0 hml hv
  obtain ⟨rfl, hsz, hP, hK, hD0, hN⟩ := hv
  have hx := B0.exec
  have hb := B0.bytes
  have hr := B0.returns
  have hts := atoms_spec (ws := vfX12_readWhole) B0.pre
  have hown : s.vm.findClass RX12 = some m.cls := findClass_of_methodNamed B0.named
  have hlocks := B0.notSynchronized
  subst hsz
  have hD := hD0.self (sz := s.heap.size)
  generalize hAe : va_A ([(a0, .inr (9, [g5, g6, g7, g8, g9, .ref a3, .int m_s.2.1, .int m_s.2.2.1, .int m_s.2.2.2.1, .int m_s.2.2.2.2.1, .int m_s.2.2.2.2.2.1, .int m_s.2.2.2.2.2.2.1, .int m_s.2.2.2.2.2.2.2.1, .int m_s.2.2.2.2.2.2.2.2.1, .long m_s.2.2.2.2.2.2.2.2.2, g10, g11, g12, g13, g14, g15, g16, g17, g18, g19, g20, g21, g22, g23, g24])), (a3, .inl (cB25, 900, .inl m_s.1))]) s.heap.size = A at hD ⊢
  have hA : ∀ q : Nat, s.heap.size ≤ q → A q := fun q h => by rw [← hAe]; exact Or.inr h
  have hS : va_S A s.heap s.heap [] := va_S.rf
  have hP : va_P (dC, dI) vwCl ([(a0, .inr (9, [g5, g6, g7, g8, g9, .ref a3, .int m_s.2.1, .int m_s.2.2.1, .int m_s.2.2.2.1, .int m_s.2.2.2.2.1, .int m_s.2.2.2.2.2.1, .int m_s.2.2.2.2.2.2.1, .int m_s.2.2.2.2.2.2.2.1, .int m_s.2.2.2.2.2.2.2.2.1, .long m_s.2.2.2.2.2.2.2.2.2, g10, g11, g12, g13, g14, g15, g16, g17, g18, g19, g20, g21, g22, g23, g24])), (a3, .inl (cB25, 900, .inl m_s.1))]) s.heap := hP
  have hl := lv_entry ([.ref a0, .int k1, .int k2]) (n := 4) (Nat.le_of_ble_eq_true rfl)
  rw [lg_entry_eq]
  generalize (lg_sl ([.ref a0, .int k1, .int k2]) ++ List.replicate (4 - (lg_sl ([.ref a0, .int k1, .int k2])).length) Slot.unset).toArray = ls at hl ⊢
  have hl : lv_has ls 4 [(0, .ref a0), (1, .int k1), (2, .int k2)] := hl
  refine W_q (fun QQ hQQ => ?_)
  rw [f_X12_readWhole] at h
  refine lv_aload_n hx hb dX12_readWhole_0 rfl (lv_at hl 0 rfl) ?_
  refine va_get (D := (dC, dI)) (ci := 9) (v := .int m_s.2.2.2.2.1) (C := RX12) (T := TX12) (N := 30) hx hb hts ifX12_readWhole_X12 hown hK hP 0 rfl rfl 9 (by decide) (hts (.fieldLink RX12 68 "HookPierModel" "sort" "I") (List.mem_of_getElem? (i := 1) rfl)) (fun _ h9 => h9) rfl dX12_readWhole_1 ?_
  refine lv_iconst (v := 3) hx hb dX12_readWhole_4 (by decide) ?_
  have J33 : ∀ (v33_m_s : TX12_s) (H : Heap) (locs : List Loc) (ls : Array Slot), f_X12_readWhole_J33 k1 v33_m_s = some out → va_P (dC, dI) vwCl ([(a0, .inr (9, [g5, g6, g7, g8, g9, .ref a3, .int v33_m_s.2.1, .int v33_m_s.2.2.1, .int v33_m_s.2.2.2.1, .int v33_m_s.2.2.2.2.1, .int v33_m_s.2.2.2.2.2.1, .int v33_m_s.2.2.2.2.2.2.1, .int v33_m_s.2.2.2.2.2.2.2.1, .int v33_m_s.2.2.2.2.2.2.2.2.1, .long v33_m_s.2.2.2.2.2.2.2.2.2, g10, g11, g12, g13, g14, g15, g16, g17, g18, g19, g20, g21, g22, g23, g24])), (a3, .inl (cB25, 900, .inl v33_m_s.1))]) H → va_D A ([(a0, .inr (9, [g5, g6, g7, g8, g9, .ref a3, .int v33_m_s.2.1, .int v33_m_s.2.2.1, .int v33_m_s.2.2.2.1, .int v33_m_s.2.2.2.2.1, .int v33_m_s.2.2.2.2.2.1, .int v33_m_s.2.2.2.2.2.2.1, .int v33_m_s.2.2.2.2.2.2.2.1, .int v33_m_s.2.2.2.2.2.2.2.2.1, .long v33_m_s.2.2.2.2.2.2.2.2.2, g10, g11, g12, g13, g14, g15, g16, g17, g18, g19, g20, g21, g22, g23, g24])), (a3, .inl (cB25, 900, .inl v33_m_s.1))]) → va_S A s.heap H locs → lv_has ls 4 [(0, .ref a0), (1, .int k1)] → W p l e (headSpec vfX12_readWhole { frames := 2, cells := 0, slots := 0, locals := 43 }).room s m ([.ref a0, .int k1, .int k2]).toArray below meth c H locs 0 0 QQ (F0 m 33 ls []) := by
    intro v33_m_s H locs ls h  hP hD hS hl
    rw [f_X12_readWhole_J33] at h
    refine lv_aload_n hx hb dX12_readWhole_33 rfl (lv_at hl 0 rfl) ?_
    refine va_get (D := (dC, dI)) (ci := 9) (v := .int v33_m_s.2.2.2.2.1) (C := RX12) (T := TX12) (N := 30) hx hb hts ifX12_readWhole_X12 hown hK hP 0 rfl rfl 9 (by decide) (hts (.fieldLink RX12 68 "HookPierModel" "sort" "I") (List.mem_of_getElem? (i := 1) rfl)) (fun _ h9 => h9) rfl dX12_readWhole_34 ?_
    refine lv_iconst (v := 5) hx hb dX12_readWhole_37 (by decide) ?_
    have J49 : ∀ (v49_t0 : Int32) (H : Heap) (locs : List Loc) (ls : Array Slot), f_X12_readWhole_J49 v33_m_s v49_t0 = some out → va_P (dC, dI) vwCl ([(a0, .inr (9, [g5, g6, g7, g8, g9, .ref a3, .int v33_m_s.2.1, .int v33_m_s.2.2.1, .int v33_m_s.2.2.2.1, .int v33_m_s.2.2.2.2.1, .int v33_m_s.2.2.2.2.2.1, .int v33_m_s.2.2.2.2.2.2.1, .int v33_m_s.2.2.2.2.2.2.2.1, .int v33_m_s.2.2.2.2.2.2.2.2.1, .long v33_m_s.2.2.2.2.2.2.2.2.2, g10, g11, g12, g13, g14, g15, g16, g17, g18, g19, g20, g21, g22, g23, g24])), (a3, .inl (cB25, 900, .inl v33_m_s.1))]) H → va_D A ([(a0, .inr (9, [g5, g6, g7, g8, g9, .ref a3, .int v33_m_s.2.1, .int v33_m_s.2.2.1, .int v33_m_s.2.2.2.1, .int v33_m_s.2.2.2.2.1, .int v33_m_s.2.2.2.2.2.1, .int v33_m_s.2.2.2.2.2.2.1, .int v33_m_s.2.2.2.2.2.2.2.1, .int v33_m_s.2.2.2.2.2.2.2.2.1, .long v33_m_s.2.2.2.2.2.2.2.2.2, g10, g11, g12, g13, g14, g15, g16, g17, g18, g19, g20, g21, g22, g23, g24])), (a3, .inl (cB25, 900, .inl v33_m_s.1))]) → va_S A s.heap H locs → lv_has ls 4 [(0, .ref a0)] → W p l e (headSpec vfX12_readWhole { frames := 2, cells := 0, slots := 0, locals := 43 }).room s m ([.ref a0, .int k1, .int k2]).toArray below meth c H locs 0 0 QQ (F0 m 49 ls [.int v49_t0]) := by
      intro v49_t0 H locs ls h  hP hD hS hl
      rw [f_X12_readWhole_J49] at h
      refine lv_istore_n (lv' := [(3, .int v49_t0), (0, .ref a0)]) hx hb dX12_readWhole_49 rfl hl (by decide) rfl (fun ls hl => ?_)
      refine lv_aload_n hx hb dX12_readWhole_50 rfl (lv_at hl 1 rfl) ?_
      obtain ⟨o51, eo51, h⟩ := bd_of h
      refine cl_v (wc := ([(a0, .inr (9, [g5, g6, g7, g8, g9, .ref a3, .int v33_m_s.2.1, .int v33_m_s.2.2.1, .int v33_m_s.2.2.2.1, .int v33_m_s.2.2.2.2.1, .int v33_m_s.2.2.2.2.2.1, .int v33_m_s.2.2.2.2.2.2.1, .int v33_m_s.2.2.2.2.2.2.2.1, .int v33_m_s.2.2.2.2.2.2.2.2.1, .long v33_m_s.2.2.2.2.2.2.2.2.2, g10, g11, g12, g13, g14, g15, g16, g17, g18, g19, g20, g21, g22, g23, g24])), (a3, .inl (cB25, 900, .inl v33_m_s.1))])) (wr := []) (va_runV (As := []) (rest := []) ⟨hx, hb, hml, hown, hts⟩ (kfX12_goesOn l dC dI a0 a3 v33_m_s (g5) (g6) (g7) (g8) (g9) (g10) (g11) (g12) (g13) (g14) (g15) (g16) (g17) (g18) (g19) (g20) (g21) (g22) (g23) (g24) cB25 H.size o51 eo51) (cwV 0 hts gfX12_readWhole_0 rfl rfl rfl (by decide +kernel) ⟨(Nat.le_of_ble_eq_true rfl), (Nat.le_of_ble_eq_true rfl)⟩) (PV (hP.sub (ws' := ([(a0, .inr (9, [g5, g6, g7, g8, g9, .ref a3, .int v33_m_s.2.1, .int v33_m_s.2.2.1, .int v33_m_s.2.2.2.1, .int v33_m_s.2.2.2.2.1, .int v33_m_s.2.2.2.2.2.1, .int v33_m_s.2.2.2.2.2.2.1, .int v33_m_s.2.2.2.2.2.2.2.1, .int v33_m_s.2.2.2.2.2.2.2.2.1, .long v33_m_s.2.2.2.2.2.2.2.2.2, g10, g11, g12, g13, g14, g15, g16, g17, g18, g19, g20, g21, g22, g23, g24])), (a3, .inl (cB25, 900, .inl v33_m_s.1))])) [0, 1] rfl) (hK.sub (tys' := ((cB25, .byte) :: [])) [0] rfl) (hD.sub (ws' := ([(a0, .inr (9, [g5, g6, g7, g8, g9, .ref a3, .int v33_m_s.2.1, .int v33_m_s.2.2.1, .int v33_m_s.2.2.2.1, .int v33_m_s.2.2.2.2.1, .int v33_m_s.2.2.2.2.2.1, .int v33_m_s.2.2.2.2.2.2.1, .int v33_m_s.2.2.2.2.2.2.2.1, .int v33_m_s.2.2.2.2.2.2.2.2.1, .long v33_m_s.2.2.2.2.2.2.2.2.2, g10, g11, g12, g13, g14, g15, g16, g17, g18, g19, g20, g21, g22, g23, g24])), (a3, .inl (cB25, 900, .inl v33_m_s.1))])) [0, 1] (by decide) rfl) hN 0 rfl rfl) rfl rfl hl.1 rfl (lv_room (Nat.le_of_ble_eq_true rfl)) dX12_readWhole_51 ⟨(Nat.le_of_ble_eq_true rfl), (Nat.le_of_ble_eq_true rfl)⟩) hP hD hK hS hA [0, 1] [] rfl rfl (by decide) (by decide) (fun _ H locs hw hP hD _ hS => ?_)
      have hP : va_P (dC, dI) vwCl ([(a0, .inr (9, [g5, g6, g7, g8, g9, .ref a3, .int o51.2.1, .int o51.2.2.1, .int o51.2.2.2.1, .int o51.2.2.2.2.1, .int o51.2.2.2.2.2.1, .int o51.2.2.2.2.2.2.1, .int o51.2.2.2.2.2.2.2.1, .int o51.2.2.2.2.2.2.2.2.1, .long o51.2.2.2.2.2.2.2.2.2, g10, g11, g12, g13, g14, g15, g16, g17, g18, g19, g20, g21, g22, g23, g24])), (a3, .inl (cB25, 900, .inl o51.1))]) H := hP
      have hD : va_D A ([(a0, .inr (9, [g5, g6, g7, g8, g9, .ref a3, .int o51.2.1, .int o51.2.2.1, .int o51.2.2.2.1, .int o51.2.2.2.2.1, .int o51.2.2.2.2.2.1, .int o51.2.2.2.2.2.2.1, .int o51.2.2.2.2.2.2.2.1, .int o51.2.2.2.2.2.2.2.2.1, .long o51.2.2.2.2.2.2.2.2.2, g10, g11, g12, g13, g14, g15, g16, g17, g18, g19, g20, g21, g22, g23, g24])), (a3, .inl (cB25, 900, .inl o51.1))]) := hD
      refine lv_iload_n hx hb dX12_readWhole_54 rfl (lv_at hl 0 rfl) ?_
      obtain rfl := Option.some.inj h
      have hP9 := hP.sub (ws' := ([(a0, .inr (9, [g5, g6, g7, g8, g9, .ref a3, .int o51.2.1, .int o51.2.2.1, .int o51.2.2.2.1, .int o51.2.2.2.2.1, .int o51.2.2.2.2.2.1, .int o51.2.2.2.2.2.2.1, .int o51.2.2.2.2.2.2.2.1, .int o51.2.2.2.2.2.2.2.2.1, .long o51.2.2.2.2.2.2.2.2.2, g10, g11, g12, g13, g14, g15, g16, g17, g18, g19, g20, g21, g22, g23, g24])), (a3, .inl (cB25, 900, .inl o51.1))])) [0, 1] rfl
      have hD9 := hD.sub (ws' := ([(a0, .inr (9, [g5, g6, g7, g8, g9, .ref a3, .int o51.2.1, .int o51.2.2.1, .int o51.2.2.2.1, .int o51.2.2.2.2.1, .int o51.2.2.2.2.2.1, .int o51.2.2.2.2.2.2.1, .int o51.2.2.2.2.2.2.2.1, .int o51.2.2.2.2.2.2.2.2.1, .long o51.2.2.2.2.2.2.2.2.2, g10, g11, g12, g13, g14, g15, g16, g17, g18, g19, g20, g21, g22, g23, g24])), (a3, .inl (cB25, 900, .inl o51.1))])) [0, 1] (by decide) rfl
      have hK9 := hK.sub (tys' := []) [] rfl
      rw [hQQ]
      exact W.iret (v := v49_t0) hx hb hr (fun t ht hW => ⟨⟨v49_t0, (), rfl, rfl, by rw [ht]; exact hP9, va_K.moved hW.alike hK9, hD9⟩, hS.F ht⟩) hS.2.2 dX12_readWhole_55
    refine lv_icmp_ne (tgt := 45) hx hb dX12_readWhole_38 (by decide) (fun c38 => ?_) (fun c38 => ?_)
    · have h := (if_neg c38).symm.trans h
      refine lv_aload_n hx hb dX12_readWhole_45 rfl (lv_at hl 0 rfl) ?_
      refine va_get (D := (dC, dI)) (ci := 9) (v := .int v33_m_s.2.2.2.2.2.2.1) (C := RX12) (T := TX12) (N := 30) hx hb hts ifX12_readWhole_X12 hown hK hP 0 rfl rfl 11 (by decide) (hts (.fieldLink RX12 91 "HookPierModel" "number" "I") (List.mem_of_getElem? (i := 6) rfl)) (fun _ h9 => h9) rfl dX12_readWhole_46 ?_
      exact J49 v33_m_s.2.2.2.2.2.2.1 H _ ls h  hP hD hS (lv_sub hl [0] rfl)
    · have h := (if_pos c38).symm.trans h
      refine lv_iload_n hx hb dX12_readWhole_41 rfl (lv_at hl 1 rfl) ?_
      refine lv_goto (tgt := 49) hx hb dX12_readWhole_42 (by decide) ?_
      exact J49 k1 H _ ls h  hP hD hS (lv_sub hl [0] rfl)
  refine lv_icmp_eq (tgt := 16) hx hb dX12_readWhole_5 (by decide) (fun c5 => ?_) (fun c5 => ?_)
  · have h := (if_pos c5).symm.trans h
    refine lv_aload_n hx hb dX12_readWhole_16 rfl (lv_at hl 0 rfl) ?_
    refine va_get (D := (dC, dI)) (ci := 9) (v := .int m_s.2.2.2.2.2.2.1) (C := RX12) (T := TX12) (N := 30) hx hb hts ifX12_readWhole_X12 hown hK hP 0 rfl rfl 11 (by decide) (hts (.fieldLink RX12 91 "HookPierModel" "number" "I") (List.mem_of_getElem? (i := 6) rfl)) (fun _ h9 => h9) rfl dX12_readWhole_17 ?_
    refine lv_iload_n hx hb dX12_readWhole_20 rfl (lv_at hl 1 rfl) ?_
    refine lv_iload_n hx hb dX12_readWhole_21 rfl (lv_at hl 2 rfl) ?_
    obtain ⟨o22, eo22⟩ : ∃ o, o = f_X12_in m_s.2.2.2.2.2.2.1 k1 k2 := ⟨_, rfl⟩
    have h := nm_of h o22 eo22
    refine cl_i (wc := []) (wr := ([(a0, .inr (9, [g5, g6, g7, g8, g9, .ref a3, .int m_s.2.1, .int m_s.2.2.1, .int m_s.2.2.2.1, .int m_s.2.2.2.2.1, .int m_s.2.2.2.2.2.1, .int m_s.2.2.2.2.2.2.1, .int m_s.2.2.2.2.2.2.2.1, .int m_s.2.2.2.2.2.2.2.2.1, .long m_s.2.2.2.2.2.2.2.2.2, g10, g11, g12, g13, g14, g15, g16, g17, g18, g19, g20, g21, g22, g23, g24])), (a3, .inl (cB25, 900, .inl m_s.1))])) (va_runS (As := [.int m_s.2.2.2.2.2.2.1, .int k1, .int k2]) (rest := []) ⟨hx, hb, hml, hown, hts⟩ (kfX12_in l dC dI m_s.2.2.2.2.2.2.1 k1 k2 s.heap.size o22 eo22.symm) (va_cwS 3 hts gfX12_readWhole_1 rfl rfl rfl (by decide +kernel) ⟨(Nat.le_of_ble_eq_true rfl), (Nat.le_of_ble_eq_true rfl)⟩) (PS (hP.sub (ws' := []) [] rfl) (hK.sub (tys' := ([])) [] rfl) (hD.sub (ws' := []) [] (by decide) rfl) hN) rfl rfl hl.1 rfl (lv_room (Nat.le_of_ble_eq_true rfl)) dX12_readWhole_22 ⟨(Nat.le_of_ble_eq_true rfl), (Nat.le_of_ble_eq_true rfl)⟩) hP hD hK hS hA [] [0, 1] rfl rfl (by decide) (by decide) (fun r22 _ H locs hw hP hD _ hS => ?_)
    obtain ⟨hw, br22⟩ := hw
    obtain rfl := hw.symm
    have hP : va_P (dC, dI) vwCl ([(a0, .inr (9, [g5, g6, g7, g8, g9, .ref a3, .int m_s.2.1, .int m_s.2.2.1, .int m_s.2.2.2.1, .int m_s.2.2.2.2.1, .int m_s.2.2.2.2.2.1, .int m_s.2.2.2.2.2.2.1, .int m_s.2.2.2.2.2.2.2.1, .int m_s.2.2.2.2.2.2.2.2.1, .long m_s.2.2.2.2.2.2.2.2.2, g10, g11, g12, g13, g14, g15, g16, g17, g18, g19, g20, g21, g22, g23, g24])), (a3, .inl (cB25, 900, .inl m_s.1))]) H := hP
    have hD : va_D A ([(a0, .inr (9, [g5, g6, g7, g8, g9, .ref a3, .int m_s.2.1, .int m_s.2.2.1, .int m_s.2.2.2.1, .int m_s.2.2.2.2.1, .int m_s.2.2.2.2.2.1, .int m_s.2.2.2.2.2.2.1, .int m_s.2.2.2.2.2.2.2.1, .int m_s.2.2.2.2.2.2.2.2.1, .long m_s.2.2.2.2.2.2.2.2.2, g10, g11, g12, g13, g14, g15, g16, g17, g18, g19, g20, g21, g22, g23, g24])), (a3, .inl (cB25, 900, .inl m_s.1))]) := hD
    refine lv_if_ne (tgt := 33) hx hb dX12_readWhole_25 (by decide) (fun c25 => ?_) (fun c25 => ?_)
    · have h := (if_neg c25).symm.trans h
      exact J33 m_s H _ ls h  hP hD hS (lv_sub hl [0, 1] rfl)
    · have h := (if_pos c25).symm.trans h
      refine lv_aload_n hx hb dX12_readWhole_28 rfl (lv_at hl 0 rfl) ?_
      refine lv_iconst (v := 4) hx hb dX12_readWhole_29 (by decide) ?_
      obtain ⟨o30, eo30⟩ : ∃ o, o = f_X12_flaw (4 : Int32) m_s := ⟨_, rfl⟩
      have h := nm_of h o30 eo30
      refine cl_v (wc := ([(a0, .inr (9, [g5, g6, g7, g8, g9, .ref a3, .int m_s.2.1, .int m_s.2.2.1, .int m_s.2.2.2.1, .int m_s.2.2.2.2.1, .int m_s.2.2.2.2.2.1, .int m_s.2.2.2.2.2.2.1, .int m_s.2.2.2.2.2.2.2.1, .int m_s.2.2.2.2.2.2.2.2.1, .long m_s.2.2.2.2.2.2.2.2.2, g10, g11, g12, g13, g14, g15, g16, g17, g18, g19, g20, g21, g22, g23, g24])), (a3, .inl (cB25, 900, .inl m_s.1))])) (wr := []) (va_runV (As := [.int 4]) (rest := []) ⟨hx, hb, hml, hown, hts⟩ (kfX12_flaw l dC dI a0 (4 : Int32) a3 m_s (g5) (g6) (g7) (g8) (g9) (g10) (g11) (g12) (g13) (g14) (g15) (g16) (g17) (g18) (g19) (g20) (g21) (g22) (g23) (g24) cB25 H.size o30 eo30.symm) (cwV 1 hts gfX12_readWhole_2 rfl rfl rfl (by decide +kernel) ⟨(Nat.le_of_ble_eq_true rfl), (Nat.le_of_ble_eq_true rfl)⟩) (PV (hP.sub (ws' := ([(a0, .inr (9, [g5, g6, g7, g8, g9, .ref a3, .int m_s.2.1, .int m_s.2.2.1, .int m_s.2.2.2.1, .int m_s.2.2.2.2.1, .int m_s.2.2.2.2.2.1, .int m_s.2.2.2.2.2.2.1, .int m_s.2.2.2.2.2.2.2.1, .int m_s.2.2.2.2.2.2.2.2.1, .long m_s.2.2.2.2.2.2.2.2.2, g10, g11, g12, g13, g14, g15, g16, g17, g18, g19, g20, g21, g22, g23, g24])), (a3, .inl (cB25, 900, .inl m_s.1))])) [0, 1] rfl) (hK.sub (tys' := ((cB25, .byte) :: [])) [0] rfl) (hD.sub (ws' := ([(a0, .inr (9, [g5, g6, g7, g8, g9, .ref a3, .int m_s.2.1, .int m_s.2.2.1, .int m_s.2.2.2.1, .int m_s.2.2.2.2.1, .int m_s.2.2.2.2.2.1, .int m_s.2.2.2.2.2.2.1, .int m_s.2.2.2.2.2.2.2.1, .int m_s.2.2.2.2.2.2.2.2.1, .long m_s.2.2.2.2.2.2.2.2.2, g10, g11, g12, g13, g14, g15, g16, g17, g18, g19, g20, g21, g22, g23, g24])), (a3, .inl (cB25, 900, .inl m_s.1))])) [0, 1] (by decide) rfl) hN 0 rfl rfl) rfl rfl hl.1 rfl (lv_room (Nat.le_of_ble_eq_true rfl)) dX12_readWhole_30 ⟨(Nat.le_of_ble_eq_true rfl), (Nat.le_of_ble_eq_true rfl)⟩) hP hD hK hS hA [0, 1] [] rfl rfl (by decide) (by decide) (fun _ H locs hw hP hD _ hS => ?_)
      have hP : va_P (dC, dI) vwCl ([(a0, .inr (9, [g5, g6, g7, g8, g9, .ref a3, .int o30.2.1, .int o30.2.2.1, .int o30.2.2.2.1, .int o30.2.2.2.2.1, .int o30.2.2.2.2.2.1, .int o30.2.2.2.2.2.2.1, .int o30.2.2.2.2.2.2.2.1, .int o30.2.2.2.2.2.2.2.2.1, .long o30.2.2.2.2.2.2.2.2.2, g10, g11, g12, g13, g14, g15, g16, g17, g18, g19, g20, g21, g22, g23, g24])), (a3, .inl (cB25, 900, .inl o30.1))]) H := hP
      have hD : va_D A ([(a0, .inr (9, [g5, g6, g7, g8, g9, .ref a3, .int o30.2.1, .int o30.2.2.1, .int o30.2.2.2.1, .int o30.2.2.2.2.1, .int o30.2.2.2.2.2.1, .int o30.2.2.2.2.2.2.1, .int o30.2.2.2.2.2.2.2.1, .int o30.2.2.2.2.2.2.2.2.1, .long o30.2.2.2.2.2.2.2.2.2, g10, g11, g12, g13, g14, g15, g16, g17, g18, g19, g20, g21, g22, g23, g24])), (a3, .inl (cB25, 900, .inl o30.1))]) := hD
      exact J33 o30 H _ ls h  hP hD hS (lv_sub hl [0, 1] rfl)
  · have h := (if_neg c5).symm.trans h
    refine lv_aload_n hx hb dX12_readWhole_8 rfl (lv_at hl 0 rfl) ?_
    refine lv_iconst (v := 1) hx hb dX12_readWhole_9 (by decide) ?_
    obtain ⟨o10, eo10⟩ : ∃ o, o = f_X12_flaw (1 : Int32) m_s := ⟨_, rfl⟩
    have h := nm_of h o10 eo10
    refine cl_v (wc := ([(a0, .inr (9, [g5, g6, g7, g8, g9, .ref a3, .int m_s.2.1, .int m_s.2.2.1, .int m_s.2.2.2.1, .int m_s.2.2.2.2.1, .int m_s.2.2.2.2.2.1, .int m_s.2.2.2.2.2.2.1, .int m_s.2.2.2.2.2.2.2.1, .int m_s.2.2.2.2.2.2.2.2.1, .long m_s.2.2.2.2.2.2.2.2.2, g10, g11, g12, g13, g14, g15, g16, g17, g18, g19, g20, g21, g22, g23, g24])), (a3, .inl (cB25, 900, .inl m_s.1))])) (wr := []) (va_runV (As := [.int 1]) (rest := []) ⟨hx, hb, hml, hown, hts⟩ (kfX12_flaw l dC dI a0 (1 : Int32) a3 m_s (g5) (g6) (g7) (g8) (g9) (g10) (g11) (g12) (g13) (g14) (g15) (g16) (g17) (g18) (g19) (g20) (g21) (g22) (g23) (g24) cB25 s.heap.size o10 eo10.symm) (cwV 1 hts gfX12_readWhole_2 rfl rfl rfl (by decide +kernel) ⟨(Nat.le_of_ble_eq_true rfl), (Nat.le_of_ble_eq_true rfl)⟩) (PV (hP.sub (ws' := ([(a0, .inr (9, [g5, g6, g7, g8, g9, .ref a3, .int m_s.2.1, .int m_s.2.2.1, .int m_s.2.2.2.1, .int m_s.2.2.2.2.1, .int m_s.2.2.2.2.2.1, .int m_s.2.2.2.2.2.2.1, .int m_s.2.2.2.2.2.2.2.1, .int m_s.2.2.2.2.2.2.2.2.1, .long m_s.2.2.2.2.2.2.2.2.2, g10, g11, g12, g13, g14, g15, g16, g17, g18, g19, g20, g21, g22, g23, g24])), (a3, .inl (cB25, 900, .inl m_s.1))])) [0, 1] rfl) (hK.sub (tys' := ((cB25, .byte) :: [])) [0] rfl) (hD.sub (ws' := ([(a0, .inr (9, [g5, g6, g7, g8, g9, .ref a3, .int m_s.2.1, .int m_s.2.2.1, .int m_s.2.2.2.1, .int m_s.2.2.2.2.1, .int m_s.2.2.2.2.2.1, .int m_s.2.2.2.2.2.2.1, .int m_s.2.2.2.2.2.2.2.1, .int m_s.2.2.2.2.2.2.2.2.1, .long m_s.2.2.2.2.2.2.2.2.2, g10, g11, g12, g13, g14, g15, g16, g17, g18, g19, g20, g21, g22, g23, g24])), (a3, .inl (cB25, 900, .inl m_s.1))])) [0, 1] (by decide) rfl) hN 0 rfl rfl) rfl rfl hl.1 rfl (lv_room (Nat.le_of_ble_eq_true rfl)) dX12_readWhole_10 ⟨(Nat.le_of_ble_eq_true rfl), (Nat.le_of_ble_eq_true rfl)⟩) hP hD hK hS hA [0, 1] [] rfl rfl (by decide) (by decide) (fun _ H locs hw hP hD _ hS => ?_)
    have hP : va_P (dC, dI) vwCl ([(a0, .inr (9, [g5, g6, g7, g8, g9, .ref a3, .int o10.2.1, .int o10.2.2.1, .int o10.2.2.2.1, .int o10.2.2.2.2.1, .int o10.2.2.2.2.2.1, .int o10.2.2.2.2.2.2.1, .int o10.2.2.2.2.2.2.2.1, .int o10.2.2.2.2.2.2.2.2.1, .long o10.2.2.2.2.2.2.2.2.2, g10, g11, g12, g13, g14, g15, g16, g17, g18, g19, g20, g21, g22, g23, g24])), (a3, .inl (cB25, 900, .inl o10.1))]) H := hP
    have hD : va_D A ([(a0, .inr (9, [g5, g6, g7, g8, g9, .ref a3, .int o10.2.1, .int o10.2.2.1, .int o10.2.2.2.1, .int o10.2.2.2.2.1, .int o10.2.2.2.2.2.1, .int o10.2.2.2.2.2.2.1, .int o10.2.2.2.2.2.2.2.1, .int o10.2.2.2.2.2.2.2.2.1, .long o10.2.2.2.2.2.2.2.2.2, g10, g11, g12, g13, g14, g15, g16, g17, g18, g19, g20, g21, g22, g23, g24])), (a3, .inl (cB25, 900, .inl o10.1))]) := hD
    refine lv_goto (tgt := 33) hx hb dX12_readWhole_13 (by decide) ?_
    exact J33 o10 H _ ls h  hP hD hS (lv_sub hl [0, 1] rfl)
theorem dX12_readPart_0 : decode cX12_readPart 0 = .ok (.aload_n 0, 1) := by decide +kernel
theorem dX12_readPart_1 : decode cX12_readPart 1 = .ok (.aload_n 1, 1) := by decide +kernel
theorem dX12_readPart_11 : decode cX12_readPart 11 = .ok (.ireturn, 1) := by decide +kernel
theorem dX12_readPart_2 : decode cX12_readPart 2 = .ok (.invokevirtual 119, 3) := by decide +kernel
theorem dX12_readPart_5 : decode cX12_readPart 5 = .ok (.aload_n 0, 1) := by decide +kernel
theorem dX12_readPart_6 : decode cX12_readPart 6 = .ok (.iload_n 2, 1) := by decide +kernel
theorem dX12_readPart_7 : decode cX12_readPart 7 = .ok (.iload_n 3, 1) := by decide +kernel
theorem dX12_readPart_8 : decode cX12_readPart 8 = .ok (.invokevirtual 123, 3) := by decide +kernel
def vfX12_readPart : List Cond := List.cons (.code yX12_readPart cX12_readPart 4 (some .int)) (apW [.methodLink RX12 119 yX12_needs, .instanceMethod yX12_needs, .selects RX12 yX12_needs yX12_needs, .initialized RX12, .methodLink RX12 123 yX12_readWhole, .instanceMethod yX12_readWhole, .selects RX12 yX12_readWhole yX12_readWhole] (apW vfX12_needs (vfX12_readWhole)))
theorem qfX12_readPart : Good vfX12_readPart := gd_cons (by decide +kernel) (gd_app (gd_dec (by decide +kernel) : Good [.methodLink RX12 119 yX12_needs, .instanceMethod yX12_needs, .selects RX12 yX12_needs yX12_needs, .initialized RX12, .methodLink RX12 123 yX12_readWhole, .instanceMethod yX12_readWhole, .selects RX12 yX12_readWhole yX12_readWhole]) (gd_app qfX12_needs qfX12_readWhole))
theorem gfX12_readPart_0 : GoodIn vfX12_readPart (wsV RX12 119 RX12 yX12_needs vfX12_needs) := goodIn_app (goodIn_r [.methodLink RX12 119 yX12_needs, .instanceMethod yX12_needs, .selects RX12 yX12_needs yX12_needs, .initialized RX12] [1, 2, 3, 4] rfl (by decide +kernel)) (goodIn_m (fun _ h => (List.mem_cons_of_mem _ (List.mem_append_right _ (List.mem_append_left _ h)))) qfX12_needs)
theorem gfX12_readPart_1 : GoodIn vfX12_readPart (wsV RX12 123 RX12 yX12_readWhole vfX12_readWhole) := goodIn_app (goodIn_r [.methodLink RX12 123 yX12_readWhole, .instanceMethod yX12_readWhole, .selects RX12 yX12_readWhole yX12_readWhole, .initialized RX12] [5, 6, 7, 4] rfl (by decide +kernel)) (goodIn_m (fun _ h => (List.mem_cons_of_mem _ (List.mem_append_right _ (List.mem_append_right _ h)))) qfX12_readWhole)
set_option maxHeartbeats 2000000 in
set_option maxRecDepth 100000 in
theorem kfX12_readPart (l : Launch) (dC : Nat → ClassId) (dI : Nat → Nat → Nat) (a0 : Nat) (a1 : Nat) (w1 : List Int32) (k2 : Int32) (k3 : Int32) (a5 : Nat) (m_s : TX12_s) (g7 : Value) (g8 : Value) (g9 : Value) (g10 : Value) (g11 : Value) (g12 : Value) (g13 : Value) (g14 : Value) (g15 : Value) (g16 : Value) (g17 : Value) (g18 : Value) (g19 : Value) (g20 : Value) (g21 : Value) (g22 : Value) (g23 : Value) (g24 : Value) (g25 : Value) (g26 : Value) (cB27 : ClassId) (sz : Nat) (B : Nat) (out : (Int32 × TX12_s)) (h : f_X12_readPart w1 k2 k3 m_s = some out) : Met l yX12_readPart vfX12_readPart ({ frames := 7, cells := 0, slots := 0, locals := 150 }) (PF (dC, dI) B [.ref a0, .ref a1, .int k2, .int k3] sz ([(a0, .inr (9, [g7, g8, g9, g10, g11, .ref a5, .int m_s.2.1, .int m_s.2.2.1, .int m_s.2.2.2.1, .int m_s.2.2.2.2.1, .int m_s.2.2.2.2.2.1, .int m_s.2.2.2.2.2.2.1, .int m_s.2.2.2.2.2.2.2.1, .int m_s.2.2.2.2.2.2.2.2.1, .long m_s.2.2.2.2.2.2.2.2.2, g12, g13, g14, g15, g16, g17, g18, g19, g20, g21, g22, g23, g24, g25, g26])), (a5, .inl (cB27, 900, .inl m_s.1))]) ((cB27, .byte) :: []) [(a1, w1)]) (va_Qi (S := Unit) (fun (r : Int32) _ => r = out.1) (fun _ t => BC (dC, dI) (va_A ([(a0, .inr (9, [g7, g8, g9, g10, g11, .ref a5, .int m_s.2.1, .int m_s.2.2.1, .int m_s.2.2.2.1, .int m_s.2.2.2.2.1, .int m_s.2.2.2.2.2.1, .int m_s.2.2.2.2.2.2.1, .int m_s.2.2.2.2.2.2.2.1, .int m_s.2.2.2.2.2.2.2.2.1, .long m_s.2.2.2.2.2.2.2.2.2, g12, g13, g14, g15, g16, g17, g18, g19, g20, g21, g22, g23, g24, g25, g26])), (a5, .inl (cB27, 900, .inl m_s.1))]) sz) ([(a0, .inr (9, [g7, g8, g9, g10, g11, .ref a5, .int out.2.2.1, .int out.2.2.2.1, .int out.2.2.2.2.1, .int out.2.2.2.2.2.1, .int out.2.2.2.2.2.2.1, .int out.2.2.2.2.2.2.2.1, .int out.2.2.2.2.2.2.2.2.1, .int out.2.2.2.2.2.2.2.2.2.1, .long out.2.2.2.2.2.2.2.2.2.2, g12, g13, g14, g15, g16, g17, g18, g19, g20, g21, g22, g23, g24, g25, g26])), (a5, .inl (cB27, 900, .inl out.2.1))]) [] t) (va_A ([(a0, .inr (9, [g7, g8, g9, g10, g11, .ref a5, .int m_s.2.1, .int m_s.2.2.1, .int m_s.2.2.2.1, .int m_s.2.2.2.2.1, .int m_s.2.2.2.2.2.1, .int m_s.2.2.2.2.2.2.1, .int m_s.2.2.2.2.2.2.2.1, .int m_s.2.2.2.2.2.2.2.2.1, .long m_s.2.2.2.2.2.2.2.2.2, g12, g13, g14, g15, g16, g17, g18, g19, g20, g21, g22, g23, g24, g25, g26])), (a5, .inl (cB27, 900, .inl m_s.1))]) sz)) 0 0 (va_A ([(a0, .inr (9, [g7, g8, g9, g10, g11, .ref a5, .int m_s.2.1, .int m_s.2.2.1, .int m_s.2.2.2.1, .int m_s.2.2.2.2.1, .int m_s.2.2.2.2.2.1, .int m_s.2.2.2.2.2.2.1, .int m_s.2.2.2.2.2.2.2.1, .int m_s.2.2.2.2.2.2.2.2.1, .long m_s.2.2.2.2.2.2.2.2.2, g12, g13, g14, g15, g16, g17, g18, g19, g20, g21, g22, g23, g24, g25, g26])), (a5, .inl (cB27, 900, .inl m_s.1))]) sz) := by
  refine Met.ofW (cc := cX12_readPart) (maxL := 4) (ret := (some .int)) (by decide) rfl ?_
  intro p e s m args below meth c s₁ B0 hml hv
  obtain ⟨rfl, hsz, hP, hK, hD0, hN, hBs, hE, hX⟩ := hv
  have hBA := PF_reg hD0 hBs
  have xs1 : S1 B a1 w1 s := hX (a1, w1) (List.mem_of_getElem? (i := 0) rfl)
  have hx := B0.exec
  have hb := B0.bytes
  have hr := B0.returns
  have hts := atoms_spec (ws := vfX12_readPart) B0.pre
  have hown : s.vm.findClass RX12 = some m.cls := findClass_of_methodNamed B0.named
  have hlocks := B0.notSynchronized
  subst hsz
  have hD := hD0.self (sz := s.heap.size)
  generalize hAe : va_A ([(a0, .inr (9, [g7, g8, g9, g10, g11, .ref a5, .int m_s.2.1, .int m_s.2.2.1, .int m_s.2.2.2.1, .int m_s.2.2.2.2.1, .int m_s.2.2.2.2.2.1, .int m_s.2.2.2.2.2.2.1, .int m_s.2.2.2.2.2.2.2.1, .int m_s.2.2.2.2.2.2.2.2.1, .long m_s.2.2.2.2.2.2.2.2.2, g12, g13, g14, g15, g16, g17, g18, g19, g20, g21, g22, g23, g24, g25, g26])), (a5, .inl (cB27, 900, .inl m_s.1))]) s.heap.size = A at hD hBA ⊢
  have hA : ∀ q : Nat, s.heap.size ≤ q → A q := fun q h => by rw [← hAe]; exact Or.inr h
  have hS : va_S A s.heap s.heap [] := va_S.rf
  have hP : va_P (dC, dI) vwCl ([(a0, .inr (9, [g7, g8, g9, g10, g11, .ref a5, .int m_s.2.1, .int m_s.2.2.1, .int m_s.2.2.2.1, .int m_s.2.2.2.2.1, .int m_s.2.2.2.2.2.1, .int m_s.2.2.2.2.2.2.1, .int m_s.2.2.2.2.2.2.2.1, .int m_s.2.2.2.2.2.2.2.2.1, .long m_s.2.2.2.2.2.2.2.2.2, g12, g13, g14, g15, g16, g17, g18, g19, g20, g21, g22, g23, g24, g25, g26])), (a5, .inl (cB27, 900, .inl m_s.1))]) s.heap := hP
  have hl := lv_entry ([.ref a0, .ref a1, .int k2, .int k3]) (n := 4) (Nat.le_of_ble_eq_true rfl)
  rw [lg_entry_eq]
  generalize (lg_sl ([.ref a0, .ref a1, .int k2, .int k3]) ++ List.replicate (4 - (lg_sl ([.ref a0, .ref a1, .int k2, .int k3])).length) Slot.unset).toArray = ls at hl ⊢
  have hl : lv_has ls 4 [(0, .ref a0), (1, .ref a1), (2, .int k2), (3, .int k3)] := hl
  have hB : RB B s A := ⟨hBA, hBs⟩
  refine W_q (fun QQ hQQ => ?_)
  rw [f_X12_readPart] at h
  refine lv_aload_n hx hb dX12_readPart_0 rfl (lv_at hl 0 rfl) ?_
  refine lv_aload_n hx hb dX12_readPart_1 rfl (lv_at hl 1 rfl) ?_
  obtain ⟨o2, eo2, h⟩ := bd_of h
  refine cl_v (wc := ([(a0, .inr (9, [g7, g8, g9, g10, g11, .ref a5, .int m_s.2.1, .int m_s.2.2.1, .int m_s.2.2.2.1, .int m_s.2.2.2.2.1, .int m_s.2.2.2.2.2.1, .int m_s.2.2.2.2.2.2.1, .int m_s.2.2.2.2.2.2.2.1, .int m_s.2.2.2.2.2.2.2.2.1, .long m_s.2.2.2.2.2.2.2.2.2, g12, g13, g14, g15, g16, g17, g18, g19, g20, g21, g22, g23, g24, g25, g26])), (a5, .inl (cB27, 900, .inl m_s.1))])) (wr := []) (va_runV (As := [.ref a1]) (rest := []) ⟨hx, hb, hml, hown, hts⟩ (kfX12_needs l dC dI a0 a1 w1 a5 m_s (g7) (g8) (g9) (g10) (g11) (g12) (g13) (g14) (g15) (g16) (g17) (g18) (g19) (g20) (g21) (g22) (g23) (g24) (g25) (g26) cB27 s.heap.size B o2 eo2) (cwV 1 hts gfX12_readPart_0 rfl rfl rfl (by decide +kernel) ⟨(Nat.le_of_ble_eq_true rfl), (Nat.le_of_ble_eq_true rfl)⟩) (PVF (hP.sub (ws' := ([(a0, .inr (9, [g7, g8, g9, g10, g11, .ref a5, .int m_s.2.1, .int m_s.2.2.1, .int m_s.2.2.2.1, .int m_s.2.2.2.2.1, .int m_s.2.2.2.2.2.1, .int m_s.2.2.2.2.2.2.1, .int m_s.2.2.2.2.2.2.2.1, .int m_s.2.2.2.2.2.2.2.2.1, .long m_s.2.2.2.2.2.2.2.2.2, g12, g13, g14, g15, g16, g17, g18, g19, g20, g21, g22, g23, g24, g25, g26])), (a5, .inl (cB27, 900, .inl m_s.1))])) [0, 1] rfl) (hK.sub (tys' := ((cB27, .byte) :: [])) [0] rfl) (hD.sub (ws' := ([(a0, .inr (9, [g7, g8, g9, g10, g11, .ref a5, .int m_s.2.1, .int m_s.2.2.1, .int m_s.2.2.2.1, .int m_s.2.2.2.2.1, .int m_s.2.2.2.2.2.1, .int m_s.2.2.2.2.2.2.1, .int m_s.2.2.2.2.2.2.2.1, .int m_s.2.2.2.2.2.2.2.2.1, .long m_s.2.2.2.2.2.2.2.2.2, g12, g13, g14, g15, g16, g17, g18, g19, g20, g21, g22, g23, g24, g25, g26])), (a5, .inl (cB27, 900, .inl m_s.1))])) [0, 1] (by decide) rfl) hN hS hB hE (S1c xs1 S1n) 0 rfl rfl) rfl rfl hl.1 rfl (lv_room (Nat.le_of_ble_eq_true rfl)) dX12_readPart_2 ⟨(Nat.le_of_ble_eq_true rfl), (Nat.le_of_ble_eq_true rfl)⟩) hP hD hK hS hA [0, 1] [] rfl rfl (by decide) (by decide) (fun _ H locs hw hP hD _ hS => ?_)
  have hP : va_P (dC, dI) vwCl ([(a0, .inr (9, [g7, g8, g9, g10, g11, .ref a5, .int o2.2.1, .int o2.2.2.1, .int o2.2.2.2.1, .int o2.2.2.2.2.1, .int o2.2.2.2.2.2.1, .int o2.2.2.2.2.2.2.1, .int o2.2.2.2.2.2.2.2.1, .int o2.2.2.2.2.2.2.2.2.1, .long o2.2.2.2.2.2.2.2.2.2, g12, g13, g14, g15, g16, g17, g18, g19, g20, g21, g22, g23, g24, g25, g26])), (a5, .inl (cB27, 900, .inl o2.1))]) H := hP
  have hD : va_D A ([(a0, .inr (9, [g7, g8, g9, g10, g11, .ref a5, .int o2.2.1, .int o2.2.2.1, .int o2.2.2.2.1, .int o2.2.2.2.2.1, .int o2.2.2.2.2.2.1, .int o2.2.2.2.2.2.2.1, .int o2.2.2.2.2.2.2.2.1, .int o2.2.2.2.2.2.2.2.2.1, .long o2.2.2.2.2.2.2.2.2.2, g12, g13, g14, g15, g16, g17, g18, g19, g20, g21, g22, g23, g24, g25, g26])), (a5, .inl (cB27, 900, .inl o2.1))]) := hD
  refine lv_aload_n hx hb dX12_readPart_5 rfl (lv_at hl 0 rfl) ?_
  refine lv_iload_n hx hb dX12_readPart_6 rfl (lv_at hl 2 rfl) ?_
  refine lv_iload_n hx hb dX12_readPart_7 rfl (lv_at hl 3 rfl) ?_
  obtain ⟨o8, eo8, h⟩ := bd_of h
  refine cl_i (wc := ([(a0, .inr (9, [g7, g8, g9, g10, g11, .ref a5, .int o2.2.1, .int o2.2.2.1, .int o2.2.2.2.1, .int o2.2.2.2.2.1, .int o2.2.2.2.2.2.1, .int o2.2.2.2.2.2.2.1, .int o2.2.2.2.2.2.2.2.1, .int o2.2.2.2.2.2.2.2.2.1, .long o2.2.2.2.2.2.2.2.2.2, g12, g13, g14, g15, g16, g17, g18, g19, g20, g21, g22, g23, g24, g25, g26])), (a5, .inl (cB27, 900, .inl o2.1))])) (wr := []) (va_runV (As := [.int k2, .int k3]) (rest := []) ⟨hx, hb, hml, hown, hts⟩ (kfX12_readWhole l dC dI a0 k2 k3 a5 o2 (g7) (g8) (g9) (g10) (g11) (g12) (g13) (g14) (g15) (g16) (g17) (g18) (g19) (g20) (g21) (g22) (g23) (g24) (g25) (g26) cB27 H.size o8 eo8) (cwV 2 hts gfX12_readPart_1 rfl rfl rfl (by decide +kernel) ⟨(Nat.le_of_ble_eq_true rfl), (Nat.le_of_ble_eq_true rfl)⟩) (PV (hP.sub (ws' := ([(a0, .inr (9, [g7, g8, g9, g10, g11, .ref a5, .int o2.2.1, .int o2.2.2.1, .int o2.2.2.2.1, .int o2.2.2.2.2.1, .int o2.2.2.2.2.2.1, .int o2.2.2.2.2.2.2.1, .int o2.2.2.2.2.2.2.2.1, .int o2.2.2.2.2.2.2.2.2.1, .long o2.2.2.2.2.2.2.2.2.2, g12, g13, g14, g15, g16, g17, g18, g19, g20, g21, g22, g23, g24, g25, g26])), (a5, .inl (cB27, 900, .inl o2.1))])) [0, 1] rfl) (hK.sub (tys' := ((cB27, .byte) :: [])) [0] rfl) (hD.sub (ws' := ([(a0, .inr (9, [g7, g8, g9, g10, g11, .ref a5, .int o2.2.1, .int o2.2.2.1, .int o2.2.2.2.1, .int o2.2.2.2.2.1, .int o2.2.2.2.2.2.1, .int o2.2.2.2.2.2.2.1, .int o2.2.2.2.2.2.2.2.1, .int o2.2.2.2.2.2.2.2.2.1, .long o2.2.2.2.2.2.2.2.2.2, g12, g13, g14, g15, g16, g17, g18, g19, g20, g21, g22, g23, g24, g25, g26])), (a5, .inl (cB27, 900, .inl o2.1))])) [0, 1] (by decide) rfl) hN 0 rfl rfl) rfl rfl hl.1 rfl (lv_room (Nat.le_of_ble_eq_true rfl)) dX12_readPart_8 ⟨(Nat.le_of_ble_eq_true rfl), (Nat.le_of_ble_eq_true rfl)⟩) hP hD hK hS hA [0, 1] [] rfl rfl (by decide) (by decide) (fun r8 _ H locs hw hP hD _ hS => ?_)
  obtain rfl := hw
  have hP : va_P (dC, dI) vwCl ([(a0, .inr (9, [g7, g8, g9, g10, g11, .ref a5, .int o8.2.2.1, .int o8.2.2.2.1, .int o8.2.2.2.2.1, .int o8.2.2.2.2.2.1, .int o8.2.2.2.2.2.2.1, .int o8.2.2.2.2.2.2.2.1, .int o8.2.2.2.2.2.2.2.2.1, .int o8.2.2.2.2.2.2.2.2.2.1, .long o8.2.2.2.2.2.2.2.2.2.2, g12, g13, g14, g15, g16, g17, g18, g19, g20, g21, g22, g23, g24, g25, g26])), (a5, .inl (cB27, 900, .inl o8.2.1))]) H := hP
  have hD : va_D A ([(a0, .inr (9, [g7, g8, g9, g10, g11, .ref a5, .int o8.2.2.1, .int o8.2.2.2.1, .int o8.2.2.2.2.1, .int o8.2.2.2.2.2.1, .int o8.2.2.2.2.2.2.1, .int o8.2.2.2.2.2.2.2.1, .int o8.2.2.2.2.2.2.2.2.1, .int o8.2.2.2.2.2.2.2.2.2.1, .long o8.2.2.2.2.2.2.2.2.2.2, g12, g13, g14, g15, g16, g17, g18, g19, g20, g21, g22, g23, g24, g25, g26])), (a5, .inl (cB27, 900, .inl o8.2.1))]) := hD
  obtain rfl := Option.some.inj h
  have hP9 := hP.sub (ws' := ([(a0, .inr (9, [g7, g8, g9, g10, g11, .ref a5, .int o8.2.2.1, .int o8.2.2.2.1, .int o8.2.2.2.2.1, .int o8.2.2.2.2.2.1, .int o8.2.2.2.2.2.2.1, .int o8.2.2.2.2.2.2.2.1, .int o8.2.2.2.2.2.2.2.2.1, .int o8.2.2.2.2.2.2.2.2.2.1, .long o8.2.2.2.2.2.2.2.2.2.2, g12, g13, g14, g15, g16, g17, g18, g19, g20, g21, g22, g23, g24, g25, g26])), (a5, .inl (cB27, 900, .inl o8.2.1))])) [0, 1] rfl
  have hD9 := hD.sub (ws' := ([(a0, .inr (9, [g7, g8, g9, g10, g11, .ref a5, .int o8.2.2.1, .int o8.2.2.2.1, .int o8.2.2.2.2.1, .int o8.2.2.2.2.2.1, .int o8.2.2.2.2.2.2.1, .int o8.2.2.2.2.2.2.2.1, .int o8.2.2.2.2.2.2.2.2.1, .int o8.2.2.2.2.2.2.2.2.2.1, .long o8.2.2.2.2.2.2.2.2.2.2, g12, g13, g14, g15, g16, g17, g18, g19, g20, g21, g22, g23, g24, g25, g26])), (a5, .inl (cB27, 900, .inl o8.2.1))])) [0, 1] (by decide) rfl
  have hK9 := hK.sub (tys' := []) [] rfl
  rw [hQQ]
  exact W.iret (v := o8.1) hx hb hr (fun t ht hW => ⟨⟨o8.1, (), rfl, rfl, by rw [ht]; exact hP9, va_K.moved hW.alike hK9, hD9⟩, hS.F ht⟩) hS.2.2 dX12_readPart_11
