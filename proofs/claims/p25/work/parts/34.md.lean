noncomputable def zrX12_isLetter_0 : List ZR := zc 0 true (.iload_n 0) 1 (zc 1 true (.bipush 97) 2 (zc 3 true (.if_icmp .lt 13) 3 (zc 6 true (.iload_n 0) 1 (zc 7 true (.bipush 122) 2 (zc 9 true (.if_icmp .gt 7) 3 (zc 12 true (.iconst 1) 1 (zc 13 true (.goto 4) 3 (zc 16 true (.iconst 0) 1 (zc 17 true (.ireturn) 1 ([]))))))))))
theorem zrX12_isLetter_0_ok : zck 0 ((zby cX12_isLetter).drop 0) zrX12_isLetter_0 = true := by decide +kernel
def vfX12_isLetter : List Cond := .code yX12_isLetter cX12_isLetter 1 (some .boolean) :: ([])
theorem qfX12_isLetter : Good vfX12_isLetter := gd_cons (by decide +kernel) (gd_dec (by decide +kernel) : Good [])
set_option maxHeartbeats 2000000 in
set_option maxRecDepth 100000 in
theorem kfX12_isLetter (l : Launch) (dC : Nat → ClassId) (dI : Nat → Nat → Nat) (k0 : Int32) (sz : Nat) (out : Int32) (h : f_X12_isLetter k0 = out) : KDi l yX12_isLetter vfX12_isLetter ({ frames := 0, cells := 0, slots := 0, locals := 0 }) (dC, dI) [.int k0] sz [] ([]) (fun (r : Int32) _ => r = out ∧ (0 ≤ r.toInt ∧ r.toInt ≤ 1)) 0 0 := by
  refine Met.ofW (cc := cX12_isLetter) (maxL := 1) (ret := (some .boolean)) (by decide) rfl ?_
  intro p e s m args below meth c s₁ B0 hml hv
  obtain ⟨rfl, hsz, hP, hK, hD0, hN⟩ := hv
  have hx := B0.exec
  have hb := B0.bytes
  have hr := B0.returns
  have hts := atoms_spec (ws := vfX12_isLetter) B0.pre
  have hown : s.vm.findClass RX12 = some m.cls := findClass_of_methodNamed B0.named
  have hlocks := B0.notSynchronized
  subst hsz
  have hD := hD0.self (sz := s.heap.size)
  generalize hAe : va_A [] s.heap.size = A at hD ⊢
  have hA : ∀ q : Nat, s.heap.size ≤ q → A q := fun q h => by rw [← hAe]; exact Or.inr h
  have hS : va_S A s.heap s.heap [] := va_S.rf
  have hP : va_P (dC, dI) vwCl [] s.heap := hP
  have hl := lv_entry ([.int k0]) (n := 1) (Nat.le_of_ble_eq_true rfl)
  rw [lg_entry_eq]
  generalize (lg_sl ([.int k0]) ++ List.replicate (1 - (lg_sl ([.int k0])).length) Slot.unset).toArray = ls at hl ⊢
  have hl : lv_has ls 1 [(0, .int k0)] := hl
  refine W_q (fun QQ hQQ => ?_)
  rw [f_X12_isLetter] at h
  refine lv_iload_n hx hb (zat zrX12_isLetter_0_ok 0 rfl) rfl (lv_at hl 0 rfl) ?_
  refine lv_bipush (v := 97) hx hb (zat zrX12_isLetter_0_ok 1 rfl) (by decide) ?_
  refine lv_icmp_lt (tgt := 16) hx hb (zat zrX12_isLetter_0_ok 2 rfl) (by decide) (fun c3 => ?_) (fun c3 => ?_)
  · have h := (if_pos c3).symm.trans h
    refine lv_iconst (v := 0) hx hb (zat zrX12_isLetter_0_ok 8 rfl) (by decide) ?_
    obtain rfl := h
    obtain ⟨hP9, hD9⟩ := pd_sub [] [] hP hD (by decide) rfl
    have hK9 := hK.sub (tys' := []) [] rfl
    rw [hQQ]
    exact W.zret (v := (0 : Int32)) hx hb hr rfl (fun t ht hW => ⟨⟨(0 : Int32), (), rfl, ⟨rfl, (by decide)⟩, by rw [ht]; exact hP9, va_K.moved hW.alike hK9, hD9⟩, hS.F ht⟩) hS.2.2 (zat zrX12_isLetter_0_ok 9 rfl)
  · have h := (if_neg c3).symm.trans h
    refine lv_iload_n hx hb (zat zrX12_isLetter_0_ok 3 rfl) rfl (lv_at hl 0 rfl) ?_
    refine lv_bipush (v := 122) hx hb (zat zrX12_isLetter_0_ok 4 rfl) (by decide) ?_
    refine lv_icmp_gt (tgt := 16) hx hb (zat zrX12_isLetter_0_ok 5 rfl) (by decide) (fun c9 => ?_) (fun c9 => ?_)
    · have h := (if_pos c9).symm.trans h
      refine lv_iconst (v := 0) hx hb (zat zrX12_isLetter_0_ok 8 rfl) (by decide) ?_
      obtain rfl := h
      obtain ⟨hP9, hD9⟩ := pd_sub [] [] hP hD (by decide) rfl
      have hK9 := hK.sub (tys' := []) [] rfl
      rw [hQQ]
      exact W.zret (v := (0 : Int32)) hx hb hr rfl (fun t ht hW => ⟨⟨(0 : Int32), (), rfl, ⟨rfl, (by decide)⟩, by rw [ht]; exact hP9, va_K.moved hW.alike hK9, hD9⟩, hS.F ht⟩) hS.2.2 (zat zrX12_isLetter_0_ok 9 rfl)
    · have h := (if_neg c9).symm.trans h
      refine lv_iconst (v := 1) hx hb (zat zrX12_isLetter_0_ok 6 rfl) (by decide) ?_
      refine lv_goto (tgt := 17) hx hb (zat zrX12_isLetter_0_ok 7 rfl) (by decide) ?_
      obtain rfl := h
      obtain ⟨hP9, hD9⟩ := pd_sub [] [] hP hD (by decide) rfl
      have hK9 := hK.sub (tys' := []) [] rfl
      rw [hQQ]
      exact W.zret (v := (1 : Int32)) hx hb hr rfl (fun t ht hW => ⟨⟨(1 : Int32), (), rfl, ⟨rfl, (by decide)⟩, by rw [ht]; exact hP9, va_K.moved hW.alike hK9, hD9⟩, hS.F ht⟩) hS.2.2 (zat zrX12_isLetter_0_ok 9 rfl)
noncomputable def zrX12_isDigit_0 : List ZR := zc 0 true (.iload_n 0) 1 (zc 1 true (.bipush 48) 2 (zc 3 true (.if_icmp .lt 13) 3 (zc 6 true (.iload_n 0) 1 (zc 7 true (.bipush 57) 2 (zc 9 true (.if_icmp .gt 7) 3 (zc 12 true (.iconst 1) 1 (zc 13 true (.goto 4) 3 (zc 16 true (.iconst 0) 1 (zc 17 true (.ireturn) 1 ([]))))))))))
theorem zrX12_isDigit_0_ok : zck 0 ((zby cX12_isDigit).drop 0) zrX12_isDigit_0 = true := by decide +kernel
def vfX12_isDigit : List Cond := .code yX12_isDigit cX12_isDigit 1 (some .boolean) :: ([])
theorem qfX12_isDigit : Good vfX12_isDigit := gd_cons (by decide +kernel) (gd_dec (by decide +kernel) : Good [])
set_option maxHeartbeats 2000000 in
set_option maxRecDepth 100000 in
theorem kfX12_isDigit (l : Launch) (dC : Nat → ClassId) (dI : Nat → Nat → Nat) (k0 : Int32) (sz : Nat) (out : Int32) (h : f_X12_isDigit k0 = out) : KDi l yX12_isDigit vfX12_isDigit ({ frames := 0, cells := 0, slots := 0, locals := 0 }) (dC, dI) [.int k0] sz [] ([]) (fun (r : Int32) _ => r = out ∧ (0 ≤ r.toInt ∧ r.toInt ≤ 1)) 0 0 := by
  refine Met.ofW (cc := cX12_isDigit) (maxL := 1) (ret := (some .boolean)) (by decide) rfl ?_
  intro p e s m args below meth c s₁ B0 hml hv
  obtain ⟨rfl, hsz, hP, hK, hD0, hN⟩ := hv
  have hx := B0.exec
  have hb := B0.bytes
  have hr := B0.returns
  have hts := atoms_spec (ws := vfX12_isDigit) B0.pre
  have hown : s.vm.findClass RX12 = some m.cls := findClass_of_methodNamed B0.named
  have hlocks := B0.notSynchronized
  subst hsz
  have hD := hD0.self (sz := s.heap.size)
  generalize hAe : va_A [] s.heap.size = A at hD ⊢
  have hA : ∀ q : Nat, s.heap.size ≤ q → A q := fun q h => by rw [← hAe]; exact Or.inr h
  have hS : va_S A s.heap s.heap [] := va_S.rf
  have hP : va_P (dC, dI) vwCl [] s.heap := hP
  have hl := lv_entry ([.int k0]) (n := 1) (Nat.le_of_ble_eq_true rfl)
  rw [lg_entry_eq]
  generalize (lg_sl ([.int k0]) ++ List.replicate (1 - (lg_sl ([.int k0])).length) Slot.unset).toArray = ls at hl ⊢
  have hl : lv_has ls 1 [(0, .int k0)] := hl
  refine W_q (fun QQ hQQ => ?_)
  rw [f_X12_isDigit] at h
  refine lv_iload_n hx hb (zat zrX12_isDigit_0_ok 0 rfl) rfl (lv_at hl 0 rfl) ?_
  refine lv_bipush (v := 48) hx hb (zat zrX12_isDigit_0_ok 1 rfl) (by decide) ?_
  refine lv_icmp_lt (tgt := 16) hx hb (zat zrX12_isDigit_0_ok 2 rfl) (by decide) (fun c3 => ?_) (fun c3 => ?_)
  · have h := (if_pos c3).symm.trans h
    refine lv_iconst (v := 0) hx hb (zat zrX12_isDigit_0_ok 8 rfl) (by decide) ?_
    obtain rfl := h
    obtain ⟨hP9, hD9⟩ := pd_sub [] [] hP hD (by decide) rfl
    have hK9 := hK.sub (tys' := []) [] rfl
    rw [hQQ]
    exact W.zret (v := (0 : Int32)) hx hb hr rfl (fun t ht hW => ⟨⟨(0 : Int32), (), rfl, ⟨rfl, (by decide)⟩, by rw [ht]; exact hP9, va_K.moved hW.alike hK9, hD9⟩, hS.F ht⟩) hS.2.2 (zat zrX12_isDigit_0_ok 9 rfl)
  · have h := (if_neg c3).symm.trans h
    refine lv_iload_n hx hb (zat zrX12_isDigit_0_ok 3 rfl) rfl (lv_at hl 0 rfl) ?_
    refine lv_bipush (v := 57) hx hb (zat zrX12_isDigit_0_ok 4 rfl) (by decide) ?_
    refine lv_icmp_gt (tgt := 16) hx hb (zat zrX12_isDigit_0_ok 5 rfl) (by decide) (fun c9 => ?_) (fun c9 => ?_)
    · have h := (if_pos c9).symm.trans h
      refine lv_iconst (v := 0) hx hb (zat zrX12_isDigit_0_ok 8 rfl) (by decide) ?_
      obtain rfl := h
      obtain ⟨hP9, hD9⟩ := pd_sub [] [] hP hD (by decide) rfl
      have hK9 := hK.sub (tys' := []) [] rfl
      rw [hQQ]
      exact W.zret (v := (0 : Int32)) hx hb hr rfl (fun t ht hW => ⟨⟨(0 : Int32), (), rfl, ⟨rfl, (by decide)⟩, by rw [ht]; exact hP9, va_K.moved hW.alike hK9, hD9⟩, hS.F ht⟩) hS.2.2 (zat zrX12_isDigit_0_ok 9 rfl)
    · have h := (if_neg c9).symm.trans h
      refine lv_iconst (v := 1) hx hb (zat zrX12_isDigit_0_ok 6 rfl) (by decide) ?_
      refine lv_goto (tgt := 17) hx hb (zat zrX12_isDigit_0_ok 7 rfl) (by decide) ?_
      obtain rfl := h
      obtain ⟨hP9, hD9⟩ := pd_sub [] [] hP hD (by decide) rfl
      have hK9 := hK.sub (tys' := []) [] rfl
      rw [hQQ]
      exact W.zret (v := (1 : Int32)) hx hb hr rfl (fun t ht hW => ⟨⟨(1 : Int32), (), rfl, ⟨rfl, (by decide)⟩, by rw [ht]; exact hP9, va_K.moved hW.alike hK9, hD9⟩, hS.F ht⟩) hS.2.2 (zat zrX12_isDigit_0_ok 9 rfl)
noncomputable def zrX12_in_0 : List ZR := zc 0 true (.iload_n 0) 1 (zc 1 true (.iload_n 1) 1 (zc 2 true (.if_icmp .lt 12) 3 (zc 5 true (.iload_n 0) 1 (zc 6 true (.iload_n 2) 1 (zc 7 true (.if_icmp .gt 7) 3 (zc 10 true (.iconst 1) 1 (zc 11 true (.goto 4) 3 (zc 14 true (.iconst 0) 1 (zc 15 true (.ireturn) 1 ([]))))))))))
theorem zrX12_in_0_ok : zck 0 ((zby cX12_in).drop 0) zrX12_in_0 = true := by decide +kernel
def vfX12_in : List Cond := .code yX12_in cX12_in 3 (some .boolean) :: ([])
theorem qfX12_in : Good vfX12_in := gd_cons (by decide +kernel) (gd_dec (by decide +kernel) : Good [])
set_option maxHeartbeats 2000000 in
set_option maxRecDepth 100000 in
theorem kfX12_in (l : Launch) (dC : Nat → ClassId) (dI : Nat → Nat → Nat) (k0 : Int32) (k1 : Int32) (k2 : Int32) (sz : Nat) (out : Int32) (h : f_X12_in k0 k1 k2 = out) : KDi l yX12_in vfX12_in ({ frames := 0, cells := 0, slots := 0, locals := 0 }) (dC, dI) [.int k0, .int k1, .int k2] sz [] ([]) (fun (r : Int32) _ => r = out ∧ (0 ≤ r.toInt ∧ r.toInt ≤ 1)) 0 0 := by
  refine Met.ofW (cc := cX12_in) (maxL := 3) (ret := (some .boolean)) (by decide) rfl ?_
  intro p e s m args below meth c s₁ B0 hml hv
  obtain ⟨rfl, hsz, hP, hK, hD0, hN⟩ := hv
  have hx := B0.exec
  have hb := B0.bytes
  have hr := B0.returns
  have hts := atoms_spec (ws := vfX12_in) B0.pre
  have hown : s.vm.findClass RX12 = some m.cls := findClass_of_methodNamed B0.named
  have hlocks := B0.notSynchronized
  subst hsz
  have hD := hD0.self (sz := s.heap.size)
  generalize hAe : va_A [] s.heap.size = A at hD ⊢
  have hA : ∀ q : Nat, s.heap.size ≤ q → A q := fun q h => by rw [← hAe]; exact Or.inr h
  have hS : va_S A s.heap s.heap [] := va_S.rf
  have hP : va_P (dC, dI) vwCl [] s.heap := hP
  have hl := lv_entry ([.int k0, .int k1, .int k2]) (n := 3) (Nat.le_of_ble_eq_true rfl)
  rw [lg_entry_eq]
  generalize (lg_sl ([.int k0, .int k1, .int k2]) ++ List.replicate (3 - (lg_sl ([.int k0, .int k1, .int k2])).length) Slot.unset).toArray = ls at hl ⊢
  have hl : lv_has ls 3 [(0, .int k0), (1, .int k1), (2, .int k2)] := hl
  refine W_q (fun QQ hQQ => ?_)
  rw [f_X12_in] at h
  refine lv_iload_n hx hb (zat zrX12_in_0_ok 0 rfl) rfl (lv_at hl 0 rfl) ?_
  refine lv_iload_n hx hb (zat zrX12_in_0_ok 1 rfl) rfl (lv_at hl 1 rfl) ?_
  refine lv_icmp_lt (tgt := 14) hx hb (zat zrX12_in_0_ok 2 rfl) (by decide) (fun c2 => ?_) (fun c2 => ?_)
  · have h := (if_pos c2).symm.trans h
    refine lv_iconst (v := 0) hx hb (zat zrX12_in_0_ok 8 rfl) (by decide) ?_
    obtain rfl := h
    obtain ⟨hP9, hD9⟩ := pd_sub [] [] hP hD (by decide) rfl
    have hK9 := hK.sub (tys' := []) [] rfl
    rw [hQQ]
    exact W.zret (v := (0 : Int32)) hx hb hr rfl (fun t ht hW => ⟨⟨(0 : Int32), (), rfl, ⟨rfl, (by decide)⟩, by rw [ht]; exact hP9, va_K.moved hW.alike hK9, hD9⟩, hS.F ht⟩) hS.2.2 (zat zrX12_in_0_ok 9 rfl)
  · have h := (if_neg c2).symm.trans h
    refine lv_iload_n hx hb (zat zrX12_in_0_ok 3 rfl) rfl (lv_at hl 0 rfl) ?_
    refine lv_iload_n hx hb (zat zrX12_in_0_ok 4 rfl) rfl (lv_at hl 2 rfl) ?_
    refine lv_icmp_gt (tgt := 14) hx hb (zat zrX12_in_0_ok 5 rfl) (by decide) (fun c7 => ?_) (fun c7 => ?_)
    · have h := (if_pos c7).symm.trans h
      refine lv_iconst (v := 0) hx hb (zat zrX12_in_0_ok 8 rfl) (by decide) ?_
      obtain rfl := h
      obtain ⟨hP9, hD9⟩ := pd_sub [] [] hP hD (by decide) rfl
      have hK9 := hK.sub (tys' := []) [] rfl
      rw [hQQ]
      exact W.zret (v := (0 : Int32)) hx hb hr rfl (fun t ht hW => ⟨⟨(0 : Int32), (), rfl, ⟨rfl, (by decide)⟩, by rw [ht]; exact hP9, va_K.moved hW.alike hK9, hD9⟩, hS.F ht⟩) hS.2.2 (zat zrX12_in_0_ok 9 rfl)
    · have h := (if_neg c7).symm.trans h
      refine lv_iconst (v := 1) hx hb (zat zrX12_in_0_ok 6 rfl) (by decide) ?_
      refine lv_goto (tgt := 15) hx hb (zat zrX12_in_0_ok 7 rfl) (by decide) ?_
      obtain rfl := h
      obtain ⟨hP9, hD9⟩ := pd_sub [] [] hP hD (by decide) rfl
      have hK9 := hK.sub (tys' := []) [] rfl
      rw [hQQ]
      exact W.zret (v := (1 : Int32)) hx hb hr rfl (fun t ht hW => ⟨⟨(1 : Int32), (), rfl, ⟨rfl, (by decide)⟩, by rw [ht]; exact hP9, va_K.moved hW.alike hK9, hD9⟩, hS.F ht⟩) hS.2.2 (zat zrX12_in_0_ok 9 rfl)
noncomputable def zrX12_byteAt_0 : List ZR := zc 0 true (.iload_n 1) 1 (zc 1 true (.aload_n 0) 1 (zc 2 true (.getfield 53) 3 (zc 5 true (.if_icmp .ge 16) 3 (zc 8 true (.aload_n 0) 1 (zc 9 true (.getfield 13) 3 (zc 12 true (.iload_n 1) 1 (zc 13 true (.baload) 1 (zc 14 true (.sipush 255) 3 (zc 17 true (.iand) 1 (zc 18 true (.goto 4) 3 (zc 21 true (.iconst (-1)) 1 (zc 22 true (.ireturn) 1 ([])))))))))))))
theorem zrX12_byteAt_0_ok : zck 0 ((zby cX12_byteAt).drop 0) zrX12_byteAt_0 = true := by decide +kernel
def vfX12_byteAt : List Cond := List.cons (.code yX12_byteAt cX12_byteAt 2 (some .int)) (apW [.fieldLink RX12 53 "HookPierModel" "size" "I", .fieldLink RX12 13 "HookPierModel" "tape" "[B"] (wsX120))
theorem ifX12_byteAt_X12 : ∀ w ∈ wsX120, w ∈ vfX12_byteAt := fun _ h => (List.mem_cons_of_mem _ (List.mem_append_right _ h))
theorem qfX12_byteAt : Good vfX12_byteAt := gd_cons (by decide +kernel) (gd_app (gd_dec (by decide +kernel) : Good [.fieldLink RX12 53 "HookPierModel" "size" "I", .fieldLink RX12 13 "HookPierModel" "tape" "[B"]) qsX12)
set_option maxHeartbeats 2000000 in
set_option maxRecDepth 100000 in
theorem kfX12_byteAt (l : Launch) (dC : Nat → ClassId) (dI : Nat → Nat → Nat) (a0 : Nat) (k1 : Int32) (a2 : Nat) (m_s : TX12_s) (g4 : Value) (g5 : Value) (g6 : Value) (g7 : Value) (g8 : Value) (g9 : Value) (g10 : Value) (g11 : Value) (g12 : Value) (g13 : Value) (g14 : Value) (g15 : Value) (g16 : Value) (g17 : Value) (g18 : Value) (g19 : Value) (g20 : Value) (g21 : Value) (g22 : Value) (g23 : Value) (cB24 : ClassId) (sz : Nat) (out : Int32) (h : f_X12_byteAt k1 m_s = some out) : KDi l yX12_byteAt vfX12_byteAt ({ frames := 0, cells := 0, slots := 0, locals := 0 }) (dC, dI) [.ref a0, .int k1] sz ([(a0, .inr (9, [g4, g5, g6, g7, g8, .ref a2, .int m_s.2.1, .int m_s.2.2.1, .int m_s.2.2.2.1, .int m_s.2.2.2.2.1, .int m_s.2.2.2.2.2.1, .int m_s.2.2.2.2.2.2.1, .int m_s.2.2.2.2.2.2.2.1, .int m_s.2.2.2.2.2.2.2.2.1, .long m_s.2.2.2.2.2.2.2.2.2, g9, g10, g11, g12, g13, g14, g15, g16, g17, g18, g19, g20, g21, g22, g23])), (a2, .inl (cB24, 900, .inl m_s.1))]) ((cB24, .byte) :: []) (fun (r : Int32) _ => r = out) 0 0 := by
  refine Met.ofW (cc := cX12_byteAt) (maxL := 2) (ret := (some .int)) (by decide) rfl ?_
  intro p e s m args below meth c s₁ B0 hml hv
  obtain ⟨rfl, hsz, hP, hK, hD0, hN⟩ := hv
  have hx := B0.exec
  have hb := B0.bytes
  have hr := B0.returns
  have hts := atoms_spec (ws := vfX12_byteAt) B0.pre
  have hown : s.vm.findClass RX12 = some m.cls := findClass_of_methodNamed B0.named
  have hlocks := B0.notSynchronized
  subst hsz
  have hD := hD0.self (sz := s.heap.size)
  generalize hAe : va_A ([(a0, .inr (9, [g4, g5, g6, g7, g8, .ref a2, .int m_s.2.1, .int m_s.2.2.1, .int m_s.2.2.2.1, .int m_s.2.2.2.2.1, .int m_s.2.2.2.2.2.1, .int m_s.2.2.2.2.2.2.1, .int m_s.2.2.2.2.2.2.2.1, .int m_s.2.2.2.2.2.2.2.2.1, .long m_s.2.2.2.2.2.2.2.2.2, g9, g10, g11, g12, g13, g14, g15, g16, g17, g18, g19, g20, g21, g22, g23])), (a2, .inl (cB24, 900, .inl m_s.1))]) s.heap.size = A at hD ⊢
  have hA : ∀ q : Nat, s.heap.size ≤ q → A q := fun q h => by rw [← hAe]; exact Or.inr h
  have hS : va_S A s.heap s.heap [] := va_S.rf
  have hP : va_P (dC, dI) vwCl ([(a0, .inr (9, [g4, g5, g6, g7, g8, .ref a2, .int m_s.2.1, .int m_s.2.2.1, .int m_s.2.2.2.1, .int m_s.2.2.2.2.1, .int m_s.2.2.2.2.2.1, .int m_s.2.2.2.2.2.2.1, .int m_s.2.2.2.2.2.2.2.1, .int m_s.2.2.2.2.2.2.2.2.1, .long m_s.2.2.2.2.2.2.2.2.2, g9, g10, g11, g12, g13, g14, g15, g16, g17, g18, g19, g20, g21, g22, g23])), (a2, .inl (cB24, 900, .inl m_s.1))]) s.heap := hP
  have hl := lv_entry ([.ref a0, .int k1]) (n := 2) (Nat.le_of_ble_eq_true rfl)
  rw [lg_entry_eq]
  generalize (lg_sl ([.ref a0, .int k1]) ++ List.replicate (2 - (lg_sl ([.ref a0, .int k1])).length) Slot.unset).toArray = ls at hl ⊢
  have hl : lv_has ls 2 [(0, .ref a0), (1, .int k1)] := hl
  refine W_q (fun QQ hQQ => ?_)
  rw [f_X12_byteAt] at h
  refine lv_iload_n hx hb (zat zrX12_byteAt_0_ok 0 rfl) rfl (lv_at hl 1 rfl) ?_
  refine lv_aload_n hx hb (zat zrX12_byteAt_0_ok 1 rfl) rfl (lv_at hl 0 rfl) ?_
  refine va_get (D := (dC, dI)) (ci := 9) (v := .int m_s.2.2.1) (C := RX12) (T := TX12) (N := 30) hx hb hts ifX12_byteAt_X12 hown hK hP 0 rfl rfl 7 (by decide) (hts (.fieldLink RX12 53 "HookPierModel" "size" "I") (List.mem_of_getElem? (i := 1) rfl)) (fun _ h9 => h9) rfl (zat zrX12_byteAt_0_ok 2 rfl) ?_
  refine lv_icmp_ge (tgt := 21) hx hb (zat zrX12_byteAt_0_ok 3 rfl) (by decide) (fun c5 => ?_) (fun c5 => ?_)
  · have h := (if_pos c5).symm.trans h
    refine lv_iconst (v := (-1)) hx hb (zat zrX12_byteAt_0_ok 11 rfl) (by decide) ?_
    obtain rfl := Option.some.inj h
    obtain ⟨hP9, hD9⟩ := pd_sub ([(a0, .inr (9, [g4, g5, g6, g7, g8, .ref a2, .int m_s.2.1, .int m_s.2.2.1, .int m_s.2.2.2.1, .int m_s.2.2.2.2.1, .int m_s.2.2.2.2.2.1, .int m_s.2.2.2.2.2.2.1, .int m_s.2.2.2.2.2.2.2.1, .int m_s.2.2.2.2.2.2.2.2.1, .long m_s.2.2.2.2.2.2.2.2.2, g9, g10, g11, g12, g13, g14, g15, g16, g17, g18, g19, g20, g21, g22, g23])), (a2, .inl (cB24, 900, .inl m_s.1))]) [0, 1] hP hD (by decide) rfl
    have hK9 := hK.sub (tys' := []) [] rfl
    rw [hQQ]
    exact W.iret (v := (-1 : Int32)) hx hb hr (fun t ht hW => ⟨⟨(-1 : Int32), (), rfl, rfl, by rw [ht]; exact hP9, va_K.moved hW.alike hK9, hD9⟩, hS.F ht⟩) hS.2.2 (zat zrX12_byteAt_0_ok 12 rfl)
  · have h := (if_neg c5).symm.trans h
    refine lv_aload_n hx hb (zat zrX12_byteAt_0_ok 4 rfl) rfl (lv_at hl 0 rfl) ?_
    refine va_get (D := (dC, dI)) (ci := 9) (v := .ref a2) (C := RX12) (T := TX12) (N := 30) hx hb hts ifX12_byteAt_X12 hown hK hP 0 rfl rfl 5 (by decide) (hts (.fieldLink RX12 13 "HookPierModel" "tape" "[B") (List.mem_of_getElem? (i := 2) rfl)) (fun _ h9 => h9) rfl (zat zrX12_byteAt_0_ok 5 rfl) ?_
    refine lv_iload_n hx hb (zat zrX12_byteAt_0_ok 6 rfl) rfl (lv_at hl 1 rfl) ?_
    obtain ⟨hg13, h⟩ := gA_of h
    refine va_bald hx hb hK hP 1 0 rfl rfl hg13 (zat zrX12_byteAt_0_ok 7 rfl) ?_
    refine lv_sipush (v := 255) hx hb (zat zrX12_byteAt_0_ok 8 rfl) (by decide) ?_
    refine lv_iand hx hb (zat zrX12_byteAt_0_ok 9 rfl) ?_
    refine lv_goto (tgt := 22) hx hb (zat zrX12_byteAt_0_ok 10 rfl) (by decide) ?_
    obtain rfl := Option.some.inj h
    obtain ⟨hP9, hD9⟩ := pd_sub ([(a0, .inr (9, [g4, g5, g6, g7, g8, .ref a2, .int m_s.2.1, .int m_s.2.2.1, .int m_s.2.2.2.1, .int m_s.2.2.2.2.1, .int m_s.2.2.2.2.2.1, .int m_s.2.2.2.2.2.2.1, .int m_s.2.2.2.2.2.2.2.1, .int m_s.2.2.2.2.2.2.2.2.1, .long m_s.2.2.2.2.2.2.2.2.2, g9, g10, g11, g12, g13, g14, g15, g16, g17, g18, g19, g20, g21, g22, g23])), (a2, .inl (cB24, 900, .inl m_s.1))]) [0, 1] hP hD (by decide) rfl
    have hK9 := hK.sub (tys' := []) [] rfl
    rw [hQQ]
    exact W.iret (v := ((m_s.1 (k1).toNatClampNeg) &&& (255 : Int32))) hx hb hr (fun t ht hW => ⟨⟨((m_s.1 (k1).toNatClampNeg) &&& (255 : Int32)), (), rfl, rfl, by rw [ht]; exact hP9, va_K.moved hW.alike hK9, hD9⟩, hS.F ht⟩) hS.2.2 (zat zrX12_byteAt_0_ok 12 rfl)
noncomputable def zrX12_packed_0 : List ZR := zc 0 true (.lconst 0) 1 (zc 1 true (.lstore_n 1) 1 (zc 2 true (.iconst 0) 1 (zc 3 true (.istore_n 3) 1 (zc 4 true (.iload_n 3) 1 (zc 5 true (.aload_n 0) 1 (zc 6 true (.invokevirtual 56) 3 (zc 9 true (.if_icmp .ge 27) 3 (zc 12 true (.ldc2_w 62) 3 (zc 15 true (.lload_n 1) 1 (zc 16 true (.lmul) 1 (zc 17 true (.aload_n 0) 1 (zc 18 true (.iload_n 3) 1 (zc 19 true (.invokevirtual 64) 3 (zc 22 true (.bipush 97) 2 (zc 24 true (.isub) 1 (zc 25 true (.iconst 1) 1 (zc 26 true (.iadd) 1 (zc 27 true (.i2l) 1 (zc 28 true (.ladd) 1 (zc 29 true (.lstore_n 1) 1 (zc 30 true (.iinc 3 1) 3 (zc 33 true (.goto (-29)) 3 (zc 36 true (.lload_n 1) 1 (zc 37 true (.lreturn) 1 ([])))))))))))))))))))))))))
theorem zrX12_packed_0_ok : zck 0 ((zby cX12_packed).drop 0) zrX12_packed_0 = true := by decide +kernel
def vfX12_packed : List Cond := List.cons (.code yX12_packed cX12_packed 4 (some .long)) (apW [.methodLink RX12 56 yJ0_length_8abf5, .instanceMethod yJ0_length_8abf5, .selects RJ0 yJ0_length_8abf5 yJ0_length_8abf5, .initialized RJ0, .constantLong RX12 62 (32), .methodLink RX12 64 yJ0_charAt_5068e, .instanceMethod yJ0_charAt_5068e, .selects RJ0 yJ0_charAt_5068e yJ0_charAt_5068e] (apW vfJ0_length (vfJ0_charAt)))
theorem qfX12_packed : Good vfX12_packed := gd_cons (by decide +kernel) (gd_app (gd_dec (by decide +kernel) : Good [.methodLink RX12 56 yJ0_length_8abf5, .instanceMethod yJ0_length_8abf5, .selects RJ0 yJ0_length_8abf5 yJ0_length_8abf5, .initialized RJ0, .constantLong RX12 62 (32), .methodLink RX12 64 yJ0_charAt_5068e, .instanceMethod yJ0_charAt_5068e, .selects RJ0 yJ0_charAt_5068e yJ0_charAt_5068e]) (gd_app qfJ0_length qfJ0_charAt))
theorem gfX12_packed_0 : GoodIn vfX12_packed (wsV RX12 56 RJ0 yJ0_length_8abf5 vfJ0_length) := goodIn_app (goodIn_r [.methodLink RX12 56 yJ0_length_8abf5, .instanceMethod yJ0_length_8abf5, .selects RJ0 yJ0_length_8abf5 yJ0_length_8abf5, .initialized RJ0] [1, 2, 3, 4] rfl (by decide +kernel)) (goodIn_m (fun _ h => (List.mem_cons_of_mem _ (List.mem_append_right _ (List.mem_append_left _ h)))) qfJ0_length)
theorem gfX12_packed_1 : GoodIn vfX12_packed (wsV RX12 64 RJ0 yJ0_charAt_5068e vfJ0_charAt) := goodIn_app (goodIn_r [.methodLink RX12 64 yJ0_charAt_5068e, .instanceMethod yJ0_charAt_5068e, .selects RJ0 yJ0_charAt_5068e yJ0_charAt_5068e, .initialized RJ0] [6, 7, 8, 4] rfl (by decide +kernel)) (goodIn_m (fun _ h => (List.mem_cons_of_mem _ (List.mem_append_right _ (List.mem_append_right _ h)))) qfJ0_charAt)
set_option maxHeartbeats 2000000 in
set_option maxRecDepth 100000 in
theorem kfX12_packed (l : Launch) (dC : Nat → ClassId) (dI : Nat → Nat → Nat) (a0 : Nat) (w0 : List Int32) (sz : Nat) (B : Nat) (out : Int64) (h : f_X12_packed w0 = some out) : Met l yX12_packed vfX12_packed ({ frames := 4, cells := 0, slots := 0, locals := 85 }) (PF (dC, dI) B [.ref a0] sz [] ([]) [(a0, w0)]) (va_Ql (S := Unit) (fun (r : Int64) _ => r = out) (fun _ t => BC (dC, dI) (va_A [] sz) [] [] t) (va_A [] sz)) 0 0 (va_A [] sz) := by
  refine Met.ofW (cc := cX12_packed) (maxL := 4) (ret := (some .long)) (by decide) rfl ?_
  intro p e s m args below meth c s₁ B0 hml hv
  obtain ⟨rfl, hsz, hP, hK, hD0, hN, hBs, hE, hX⟩ := hv
  have hBA := PF_reg hD0 hBs
  have xs0 : S1 B a0 w0 s := hX (a0, w0) (List.mem_of_getElem? (i := 0) rfl)
  have hx := B0.exec
  have hb := B0.bytes
  have hr := B0.returns
  have hts := atoms_spec (ws := vfX12_packed) B0.pre
  have hown : s.vm.findClass RX12 = some m.cls := findClass_of_methodNamed B0.named
  have hlocks := B0.notSynchronized
  subst hsz
  have hD := hD0.self (sz := s.heap.size)
  generalize hAe : va_A [] s.heap.size = A at hD hBA ⊢
  have hA : ∀ q : Nat, s.heap.size ≤ q → A q := fun q h => by rw [← hAe]; exact Or.inr h
  have hS : va_S A s.heap s.heap [] := va_S.rf
  have hP : va_P (dC, dI) vwCl [] s.heap := hP
  have hl := lv_entry ([.ref a0]) (n := 4) (Nat.le_of_ble_eq_true rfl)
  rw [lg_entry_eq]
  generalize (lg_sl ([.ref a0]) ++ List.replicate (4 - (lg_sl ([.ref a0])).length) Slot.unset).toArray = ls at hl ⊢
  have hl : lv_has ls 4 [(0, .ref a0)] := hl
  have hB : RB B s A := ⟨hBA, hBs⟩
  refine W_q (fun QQ hQQ => ?_)
  rw [f_X12_packed] at h
  refine lv_lconst (v := 0) hx hb (zat zrX12_packed_0_ok 0 rfl) (by decide) ?_
  refine lv_lstore_n (lv' := [(1, .long 0), (0, .ref a0)]) hx hb (zat zrX12_packed_0_ok 1 rfl) rfl hl (by decide) rfl (fun ls hl => ?_)
  refine lv_iconst (v := 0) hx hb (zat zrX12_packed_0_ok 2 rfl) (by decide) ?_
  refine lv_istore_n (lv' := [(3, .int 0), (1, .long 0), (0, .ref a0)]) hx hb (zat zrX12_packed_0_ok 3 rfl) rfl hl (by decide) rfl (fun ls hl => ?_)
  have L4 : ∀ (n4 : Nat) (v4_l3 : Int32) (v4_l1 : Int64) (H : Heap) (locs : List Loc) (ls : Array Slot), f_X12_packed_L4 w0 n4 v4_l3 v4_l1 = some out → va_P (dC, dI) vwCl [] H → va_D A [] → va_S A s.heap H locs → lv_has ls 4 [(3, .int v4_l3), (1, .long v4_l1), (0, .ref a0)] → W p l e (headSpec vfX12_packed { frames := 4, cells := 0, slots := 0, locals := 85 }).room s m ([.ref a0]).toArray below meth c H locs 0 0 QQ (F0 m 4 ls []) := by
    intro n4
    induction n4 with
    | zero =>
      intro v4_l3 v4_l1 H locs ls h  _ _ _ _
      rw [f_X12_packed_L4] at h
      cases h
    | succ n4 ih4 =>
      intro v4_l3 v4_l1 H locs ls h  hP hD hS hl
      rw [f_X12_packed_L4] at h
      refine lv_iload_n hx hb (zat zrX12_packed_0_ok 4 rfl) rfl (lv_at hl 0 rfl) ?_
      refine lv_aload_n hx hb (zat zrX12_packed_0_ok 5 rfl) rfl (lv_at hl 2 rfl) ?_
      refine cl_i (D := (dC, dI)) (w1 := fun _ => []) (tys1 := fun _ => []) (wc := []) (wr := []) (va_runV (As := []) (rest := [.int v4_l3]) ⟨hx, hb, hml, hown, hts⟩ (kfJ0_length l dC dI a0 w0 H.size B) (cwV 0 hts gfX12_packed_0 rfl rfl rfl (by decide +kernel) ⟨(Nat.le_of_ble_eq_true rfl), (Nat.le_of_ble_eq_true rfl)⟩) (PVS hK hN hS hB hE xs0) rfl rfl hl.1 rfl (lv_room (Nat.le_of_ble_eq_true rfl)) (zat zrX12_packed_0_ok 6 rfl) ⟨(Nat.le_of_ble_eq_true rfl), (Nat.le_of_ble_eq_true rfl)⟩) hP hD hK hS hA [] [] rfl rfl (by decide) (by decide) (fun r6 _ H locs hw hP hD _ hS => ?_)
      obtain rfl := hw
      obtain ⟨hP, hD⟩ := pd_mk [] hP hD
      refine lv_icmp_ge (tgt := 36) hx hb (zat zrX12_packed_0_ok 7 rfl) (by decide) (fun c9 => ?_) (fun c9 => ?_)
      · have h := (if_pos c9).symm.trans h
        refine lv_lload_n hx hb (zat zrX12_packed_0_ok 23 rfl) rfl (lv_at hl 1 rfl) ?_
        obtain rfl := Option.some.inj h
        obtain ⟨hP9, hD9⟩ := pd_sub [] [] hP hD (by decide) rfl
        have hK9 := hK.sub (tys' := []) [] rfl
        rw [hQQ]
        exact W.lret (v := v4_l1) hx hb hr (fun t ht hW => ⟨⟨v4_l1, (), rfl, rfl, by rw [ht]; exact hP9, va_K.moved hW.alike hK9, hD9⟩, hS.F ht⟩) hS.2.2 (zat zrX12_packed_0_ok 24 rfl)
      · have h := (if_neg c9).symm.trans h
        refine lv_ldc2 hx hb hown (hts (.constantLong RX12 62 (32)) (List.mem_of_getElem? (i := 5) rfl)) (zat zrX12_packed_0_ok 8 rfl) ?_
        refine lv_lload_n hx hb (zat zrX12_packed_0_ok 9 rfl) rfl (lv_at hl 1 rfl) ?_
        refine lv_lmul hx hb (zat zrX12_packed_0_ok 10 rfl) ?_
        refine lv_aload_n hx hb (zat zrX12_packed_0_ok 11 rfl) rfl (lv_at hl 2 rfl) ?_
        refine lv_iload_n hx hb (zat zrX12_packed_0_ok 12 rfl) rfl (lv_at hl 0 rfl) ?_
        obtain ⟨hg19, h⟩ := gA_of h
        refine cl_i (D := (dC, dI)) (w1 := fun _ => []) (tys1 := fun _ => []) (wc := []) (wr := []) (va_runV (As := [.int v4_l3]) (rest := [.long ((32 : Int64) * v4_l1)]) ⟨hx, hb, hml, hown, hts⟩ (kfJ0_charAt l dC dI a0 w0 v4_l3 H.size B hg19) (cwV 1 hts gfX12_packed_1 rfl rfl rfl (by decide +kernel) ⟨(Nat.le_of_ble_eq_true rfl), (Nat.le_of_ble_eq_true rfl)⟩) (PVS hK hN hS hB hE xs0) rfl rfl hl.1 rfl (lv_room (Nat.le_of_ble_eq_true rfl)) (zat zrX12_packed_0_ok 13 rfl) ⟨(Nat.le_of_ble_eq_true rfl), (Nat.le_of_ble_eq_true rfl)⟩) hP hD hK hS hA [] [] rfl rfl (by decide) (by decide) (fun r19 _ H locs hw hP hD _ hS => ?_)
        obtain rfl := hw
        obtain ⟨hP, hD⟩ := pd_mk [] hP hD
        refine lv_bipush (v := 97) hx hb (zat zrX12_packed_0_ok 14 rfl) (by decide) ?_
        refine lv_isub hx hb (zat zrX12_packed_0_ok 15 rfl) ?_
        refine lv_iconst (v := 1) hx hb (zat zrX12_packed_0_ok 16 rfl) (by decide) ?_
        refine lv_iadd hx hb (zat zrX12_packed_0_ok 17 rfl) ?_
        refine lv_i2l hx hb (zat zrX12_packed_0_ok 18 rfl) rfl ?_
        refine lv_ladd hx hb (zat zrX12_packed_0_ok 19 rfl) ?_
        refine lv_topl (fun z28 ez28 => ?_)
        have h := nm_of h z28 ez28
        refine lv_lstore_n (lv' := [(1, .long z28), (3, .int v4_l3), (0, .ref a0)]) hx hb (zat zrX12_packed_0_ok 20 rfl) rfl hl (by decide) rfl (fun ls hl => ?_)
        refine lv_iinc (v := (v4_l3 + (1 : Int32))) (lv' := [(3, .int (v4_l3 + (1 : Int32))), (1, .long z28), (0, .ref a0)]) hx hb (zat zrX12_packed_0_ok 21 rfl) hl (k := 1) rfl rfl (by decide) rfl (fun ls hl => ?_)
        refine lv_goto (tgt := 4) hx hb (zat zrX12_packed_0_ok 22 rfl) (by decide) ?_
        exact ih4 (v4_l3 + (1 : Int32)) z28 H _ ls h  hP hD hS (lv_sub hl [0, 1, 2] rfl)
  exact L4 FU (0 : Int32) (0 : Int64) s.heap _ ls h  hP hD hS (lv_sub hl [0, 1, 2] rfl)
noncomputable def zrX12_goesOn_0 : List ZR := zc 0 true (.aload_n 0) 1 (zc 1 true (.getfield 68) 3 (zc 4 true (.iconst 5) 1 (zc 5 true (.if_icmp .ne 4) 3 (zc 8 true (.return_) 1 (zc 9 true (.aload_n 0) 1 (zc 10 true (.aload_n 0) 1 (zc 11 true (.getfield 71) 3 (zc 14 true (.invokevirtual 74) 3 (zc 17 true (.bipush 32) 2 (zc 19 true (.if_icmp .ne 16) 3 (zc 22 true (.aload_n 0) 1 (zc 23 true (.dup) 1 (zc 24 true (.getfield 71) 3 (zc 27 true (.iconst 1) 1 (zc 28 true (.iadd) 1 (zc 29 true (.putfield 71) 3 (zc 32 true (.goto (-23)) 3 (zc 35 true (.aload_n 0) 1 (zc 36 true (.aload_n 0) 1 (zc 37 true (.getfield 71) 3 (zc 40 true (.putfield 77) 3 (zc 43 true (.aload_n 0) 1 (zc 44 true (.iconst 0) 1 (zc 45 true (.putfield 68) 3 (zc 48 true (.aload_n 0) 1 (zc 49 true (.aload_n 0) 1 (zc 50 true (.getfield 71) 3 (zc 53 true (.invokevirtual 74) 3 (zc 56 true (.istore_n 1) 1 (zc 57 true (.iconst 0) 1 (zc 58 true (.istore_n 2) 1 (zc 59 true (.iload_n 1) 1 (zc 60 true (.iconst (-1)) 1 (zc 61 true (.if_icmp .ne 11) 3 (zc 64 true (.aload_n 0) 1 (zc 65 true (.iconst 1) 1 (zc 66 true (.putfield 68) 3 (zc 69 true (.goto 196) 3 (zc 72 true (.iload_n 1) 1 (zc 73 true (.invokestatic 80) 3 (zc 76 true (.ifCond .eq 85) 3 (zc 79 true (.aload_n 0) 1 (zc 80 true (.lconst 0) 1 (zc 81 true (.putfield 84) 3 (zc 84 true (.aload_n 0) 1 (zc 85 true (.aload_n 0) 1 (zc 86 true (.getfield 71) 3 (zc 89 true (.invokevirtual 74) 3 (zc 92 true (.invokestatic 80) 3 (zc 95 true (.ifCond .eq 52) 3 (zc 98 true (.iload_n 2) 1 (zc 99 true (.bipush 8) 2 (zc 101 true (.if_icmp .ge 30) 3 (zc 104 true (.aload_n 0) 1 (zc 105 true (.ldc2_w 62) 3 (zc 108 true (.aload_n 0) 1 (zc 109 true (.getfield 84) 3 (zc 112 true (.lmul) 1 (zc 113 true (.aload_n 0) 1 (zc 114 true (.aload_n 0) 1 (zc 115 true (.getfield 71) 3 (zc 118 true (.invokevirtual 74) 3 (zc 121 true (.bipush 97) 2 ([]))))))))))))))))))))))))))))))))))))))))))))))))))))))))))))))))
theorem zrX12_goesOn_0_ok : zck 0 ((zby cX12_goesOn).drop 0) zrX12_goesOn_0 = true := by decide +kernel
noncomputable def zrX12_goesOn_1 : List ZR := zc 123 true (.isub) 1 (zc 124 true (.iconst 1) 1 (zc 125 true (.iadd) 1 (zc 126 true (.i2l) 1 (zc 127 true (.ladd) 1 (zc 128 true (.putfield 84) 3 (zc 131 true (.iinc 2 1) 3 (zc 134 true (.aload_n 0) 1 (zc 135 true (.dup) 1 (zc 136 true (.getfield 71) 3 (zc 139 true (.iconst 1) 1 (zc 140 true (.iadd) 1 (zc 141 true (.putfield 71) 3 (zc 144 true (.goto (-60)) 3 (zc 147 true (.iload_n 2) 1 (zc 148 true (.bipush 8) 2 (zc 150 true (.if_icmp .gt 115) 3 (zc 153 true (.aload_n 0) 1 (zc 154 true (.iconst 2) 1 (zc 155 true (.putfield 68) 3 (zc 158 true (.goto 107) 3 (zc 161 true (.iload_n 1) 1 (zc 162 true (.invokestatic 88) 3 (zc 165 true (.ifCond .eq 79) 3 (zc 168 true (.aload_n 0) 1 (zc 169 true (.iconst 0) 1 (zc 170 true (.putfield 91) 3 (zc 173 true (.aload_n 0) 1 (zc 174 true (.aload_n 0) 1 (zc 175 true (.getfield 71) 3 (zc 178 true (.invokevirtual 74) 3 (zc 181 true (.invokestatic 88) 3 (zc 184 true (.ifCond .eq 47) 3 (zc 187 true (.iload_n 2) 1 (zc 188 true (.iconst 2) 1 (zc 189 true (.if_icmp .ge 26) 3 (zc 192 true (.aload_n 0) 1 (zc 193 true (.bipush 10) 2 (zc 195 true (.aload_n 0) 1 (zc 196 true (.getfield 91) 3 (zc 199 true (.imul) 1 (zc 200 true (.aload_n 0) 1 (zc 201 true (.aload_n 0) 1 (zc 202 true (.getfield 71) 3 (zc 205 true (.invokevirtual 74) 3 (zc 208 true (.iadd) 1 (zc 209 true (.bipush 48) 2 (zc 211 true (.isub) 1 (zc 212 true (.putfield 91) 3 (zc 215 true (.iinc 2 1) 3 (zc 218 true (.aload_n 0) 1 (zc 219 true (.dup) 1 (zc 220 true (.getfield 71) 3 (zc 223 true (.iconst 1) 1 (zc 224 true (.iadd) 1 (zc 225 true (.putfield 71) 3 (zc 228 true (.goto (-55)) 3 (zc 231 true (.iload_n 2) 1 (zc 232 true (.iconst 2) 1 (zc 233 true (.if_icmp .gt 32) 3 (zc 236 true (.aload_n 0) 1 (zc 237 true (.iconst 3) 1 (zc 238 true (.putfield 68) 3 (zc 241 true (.goto 24) 3 ([]))))))))))))))))))))))))))))))))))))))))))))))))))))))))))))))))
theorem zrX12_goesOn_1_ok : zck 123 ((zby cX12_goesOn).drop 123) zrX12_goesOn_1 = true := by decide +kernel
noncomputable def zrX12_goesOn_2 : List ZR := zc 244 true (.iload_n 1) 1 (zc 245 true (.bipush 59) 2 (zc 247 true (.if_icmp .ne 18) 3 (zc 250 true (.aload_n 0) 1 (zc 251 true (.iconst 4) 1 (zc 252 true (.putfield 68) 3 (zc 255 true (.aload_n 0) 1 (zc 256 true (.dup) 1 (zc 257 true (.getfield 71) 3 (zc 260 true (.iconst 1) 1 (zc 261 true (.iadd) 1 (zc 262 true (.putfield 71) 3 (zc 265 true (.return_) 1 ([])))))))))))))
theorem zrX12_goesOn_2_ok : zck 244 ((zby cX12_goesOn).drop 244) zrX12_goesOn_2 = true := by decide +kernel
def vfX12_goesOn : List Cond := List.cons (.code yX12_goesOn cX12_goesOn 3 none) (apW [.fieldLink RX12 68 "HookPierModel" "sort" "I", .fieldLink RX12 71 "HookPierModel" "spot" "I", .methodLink RX12 74 yX12_byteAt, .instanceMethod yX12_byteAt, .selects RX12 yX12_byteAt yX12_byteAt, .initialized RX12, .fieldLink RX12 77 "HookPierModel" "place" "I", .methodLink RX12 80 yX12_isLetter, .static yX12_isLetter, .methodLink RX12 88 yX12_isDigit, .static yX12_isDigit, .fieldLink RX12 91 "HookPierModel" "number" "I", .fieldLink RX12 84 "HookPierModel" "word" "J", .constantLong RX12 62 (32)] (apW wsX120 (apW vfX12_byteAt (apW vfX12_isLetter (vfX12_isDigit)))))
theorem ifX12_goesOn_X12 : ∀ w ∈ wsX120, w ∈ vfX12_goesOn := fun _ h => (List.mem_cons_of_mem _ (List.mem_append_right _ (List.mem_append_left _ h)))
theorem qfX12_goesOn : Good vfX12_goesOn := gd_cons (by decide +kernel) (gd_app (gd_dec (by decide +kernel) : Good [.fieldLink RX12 68 "HookPierModel" "sort" "I", .fieldLink RX12 71 "HookPierModel" "spot" "I", .methodLink RX12 74 yX12_byteAt, .instanceMethod yX12_byteAt, .selects RX12 yX12_byteAt yX12_byteAt, .initialized RX12, .fieldLink RX12 77 "HookPierModel" "place" "I", .methodLink RX12 80 yX12_isLetter, .static yX12_isLetter, .methodLink RX12 88 yX12_isDigit, .static yX12_isDigit, .fieldLink RX12 91 "HookPierModel" "number" "I", .fieldLink RX12 84 "HookPierModel" "word" "J", .constantLong RX12 62 (32)]) (gd_app qsX12 (gd_app qfX12_byteAt (gd_app qfX12_isLetter qfX12_isDigit))))
theorem gfX12_goesOn_0 : GoodIn vfX12_goesOn (wsV RX12 74 RX12 yX12_byteAt vfX12_byteAt) := goodIn_app (goodIn_r [.methodLink RX12 74 yX12_byteAt, .instanceMethod yX12_byteAt, .selects RX12 yX12_byteAt yX12_byteAt, .initialized RX12] [3, 4, 5, 6] rfl (by decide +kernel)) (goodIn_m (fun _ h => (List.mem_cons_of_mem _ (List.mem_append_right _ (List.mem_append_right _ (List.mem_append_left _ h))))) qfX12_byteAt)
theorem gfX12_goesOn_1 : GoodIn vfX12_goesOn (va_wsS RX12 80 yX12_isLetter vfX12_isLetter) := goodIn_app (goodIn_r [.methodLink RX12 80 yX12_isLetter, .static yX12_isLetter, .initialized RX12] [8, 9, 6] rfl (by decide +kernel)) (goodIn_m (fun _ h => (List.mem_cons_of_mem _ (List.mem_append_right _ (List.mem_append_right _ (List.mem_append_right _ (List.mem_append_left _ h)))))) qfX12_isLetter)
theorem gfX12_goesOn_2 : GoodIn vfX12_goesOn (va_wsS RX12 88 yX12_isDigit vfX12_isDigit) := goodIn_app (goodIn_r [.methodLink RX12 88 yX12_isDigit, .static yX12_isDigit, .initialized RX12] [10, 11, 6] rfl (by decide +kernel)) (goodIn_m (fun _ h => (List.mem_cons_of_mem _ (List.mem_append_right _ (List.mem_append_right _ (List.mem_append_right _ (List.mem_append_right _ h)))))) qfX12_isDigit)
set_option maxHeartbeats 2000000 in
set_option maxRecDepth 100000 in
theorem kfX12_goesOn (l : Launch) (dC : Nat → ClassId) (dI : Nat → Nat → Nat) (a0 : Nat) (a1 : Nat) (m_s : TX12_s) (g3 : Value) (g4 : Value) (g5 : Value) (g6 : Value) (g7 : Value) (g8 : Value) (g9 : Value) (g10 : Value) (g11 : Value) (g12 : Value) (g13 : Value) (g14 : Value) (g15 : Value) (g16 : Value) (g17 : Value) (g18 : Value) (g19 : Value) (g20 : Value) (g21 : Value) (g22 : Value) (cB23 : ClassId) (sz : Nat) (out : TX12_s) (h : f_X12_goesOn m_s = some out) : KCv l yX12_goesOn vfX12_goesOn ({ frames := 1, cells := 0, slots := 0, locals := 21 }) (dC, dI) [.ref a0] sz ([(a0, .inr (9, [g3, g4, g5, g6, g7, .ref a1, .int m_s.2.1, .int m_s.2.2.1, .int m_s.2.2.2.1, .int m_s.2.2.2.2.1, .int m_s.2.2.2.2.2.1, .int m_s.2.2.2.2.2.2.1, .int m_s.2.2.2.2.2.2.2.1, .int m_s.2.2.2.2.2.2.2.2.1, .long m_s.2.2.2.2.2.2.2.2.2, g8, g9, g10, g11, g12, g13, g14, g15, g16, g17, g18, g19, g20, g21, g22])), (a1, .inl (cB23, 900, .inl m_s.1))]) ((cB23, .byte) :: []) (fun _ => True) ([(a0, .inr (9, [g3, g4, g5, g6, g7, .ref a1, .int out.2.1, .int out.2.2.1, .int out.2.2.2.1, .int out.2.2.2.2.1, .int out.2.2.2.2.2.1, .int out.2.2.2.2.2.2.1, .int out.2.2.2.2.2.2.2.1, .int out.2.2.2.2.2.2.2.2.1, .long out.2.2.2.2.2.2.2.2.2, g8, g9, g10, g11, g12, g13, g14, g15, g16, g17, g18, g19, g20, g21, g22])), (a1, .inl (cB23, 900, .inl out.1))]) 0 0 := by
  refine Met.ofW (cc := cX12_goesOn) (maxL := 3) (ret := none) (by decide) rfl ?_
  intro p e s m args below meth c s₁ B0 hml hv
  obtain ⟨rfl, hsz, hP, hK, hD0, hN⟩ := hv
  have hx := B0.exec
  have hb := B0.bytes
  have hr := B0.returns
  have hts := atoms_spec (ws := vfX12_goesOn) B0.pre
  have hown : s.vm.findClass RX12 = some m.cls := findClass_of_methodNamed B0.named
  have hlocks := B0.notSynchronized
  subst hsz
  have hD := hD0.self (sz := s.heap.size)
  generalize hAe : va_A ([(a0, .inr (9, [g3, g4, g5, g6, g7, .ref a1, .int m_s.2.1, .int m_s.2.2.1, .int m_s.2.2.2.1, .int m_s.2.2.2.2.1, .int m_s.2.2.2.2.2.1, .int m_s.2.2.2.2.2.2.1, .int m_s.2.2.2.2.2.2.2.1, .int m_s.2.2.2.2.2.2.2.2.1, .long m_s.2.2.2.2.2.2.2.2.2, g8, g9, g10, g11, g12, g13, g14, g15, g16, g17, g18, g19, g20, g21, g22])), (a1, .inl (cB23, 900, .inl m_s.1))]) s.heap.size = A at hD ⊢
  have hA : ∀ q : Nat, s.heap.size ≤ q → A q := fun q h => by rw [← hAe]; exact Or.inr h
  have hS : va_S A s.heap s.heap [] := va_S.rf
  have hP : va_P (dC, dI) vwCl ([(a0, .inr (9, [g3, g4, g5, g6, g7, .ref a1, .int m_s.2.1, .int m_s.2.2.1, .int m_s.2.2.2.1, .int m_s.2.2.2.2.1, .int m_s.2.2.2.2.2.1, .int m_s.2.2.2.2.2.2.1, .int m_s.2.2.2.2.2.2.2.1, .int m_s.2.2.2.2.2.2.2.2.1, .long m_s.2.2.2.2.2.2.2.2.2, g8, g9, g10, g11, g12, g13, g14, g15, g16, g17, g18, g19, g20, g21, g22])), (a1, .inl (cB23, 900, .inl m_s.1))]) s.heap := hP
  have hl := lv_entry ([.ref a0]) (n := 3) (Nat.le_of_ble_eq_true rfl)
  rw [lg_entry_eq]
  generalize (lg_sl ([.ref a0]) ++ List.replicate (3 - (lg_sl ([.ref a0])).length) Slot.unset).toArray = ls at hl ⊢
  have hl : lv_has ls 3 [(0, .ref a0)] := hl
  refine W_q (fun QQ hQQ => ?_)
  rw [f_X12_goesOn] at h
  refine lv_aload_n hx hb (zat zrX12_goesOn_0_ok 0 rfl) rfl (lv_at hl 0 rfl) ?_
  refine va_get (D := (dC, dI)) (ci := 9) (v := .int m_s.2.2.2.2.1) (C := RX12) (T := TX12) (N := 30) hx hb hts ifX12_goesOn_X12 hown hK hP 0 rfl rfl 9 (by decide) (hts (.fieldLink RX12 68 "HookPierModel" "sort" "I") (List.mem_of_getElem? (i := 1) rfl)) (fun _ h9 => h9) rfl (zat zrX12_goesOn_0_ok 1 rfl) ?_
  refine lv_iconst (v := 5) hx hb (zat zrX12_goesOn_0_ok 2 rfl) (by decide) ?_
  have L9 : ∀ (n9 : Nat) (v9_m_s : TX12_s) (H : Heap) (locs : List Loc) (ls : Array Slot), f_X12_goesOn_L9 n9 v9_m_s = some out → va_P (dC, dI) vwCl ([(a0, .inr (9, [g3, g4, g5, g6, g7, .ref a1, .int v9_m_s.2.1, .int v9_m_s.2.2.1, .int v9_m_s.2.2.2.1, .int v9_m_s.2.2.2.2.1, .int v9_m_s.2.2.2.2.2.1, .int v9_m_s.2.2.2.2.2.2.1, .int v9_m_s.2.2.2.2.2.2.2.1, .int v9_m_s.2.2.2.2.2.2.2.2.1, .long v9_m_s.2.2.2.2.2.2.2.2.2, g8, g9, g10, g11, g12, g13, g14, g15, g16, g17, g18, g19, g20, g21, g22])), (a1, .inl (cB23, 900, .inl v9_m_s.1))]) H → va_D A ([(a0, .inr (9, [g3, g4, g5, g6, g7, .ref a1, .int v9_m_s.2.1, .int v9_m_s.2.2.1, .int v9_m_s.2.2.2.1, .int v9_m_s.2.2.2.2.1, .int v9_m_s.2.2.2.2.2.1, .int v9_m_s.2.2.2.2.2.2.1, .int v9_m_s.2.2.2.2.2.2.2.1, .int v9_m_s.2.2.2.2.2.2.2.2.1, .long v9_m_s.2.2.2.2.2.2.2.2.2, g8, g9, g10, g11, g12, g13, g14, g15, g16, g17, g18, g19, g20, g21, g22])), (a1, .inl (cB23, 900, .inl v9_m_s.1))]) → va_S A s.heap H locs → lv_has ls 3 [(0, .ref a0)] → W p l e (headSpec vfX12_goesOn { frames := 1, cells := 0, slots := 0, locals := 21 }).room s m ([.ref a0]).toArray below meth c H locs 0 0 QQ (F0 m 9 ls []) := by
    intro n9
    induction n9 with
    | zero =>
      intro v9_m_s H locs ls h  _ _ _ _
      rw [f_X12_goesOn_L9] at h
      cases h
    | succ n9 ih9 =>
      intro v9_m_s H locs ls h  hP hD hS hl
      rw [f_X12_goesOn_L9] at h
      refine lv_aload_n hx hb (zat zrX12_goesOn_0_ok 5 rfl) rfl (lv_at hl 0 rfl) ?_
      refine lv_aload_n hx hb (zat zrX12_goesOn_0_ok 6 rfl) rfl (lv_at hl 0 rfl) ?_
      refine va_get (D := (dC, dI)) (ci := 9) (v := .int v9_m_s.2.2.2.1) (C := RX12) (T := TX12) (N := 30) hx hb hts ifX12_goesOn_X12 hown hK hP 0 rfl rfl 8 (by decide) (hts (.fieldLink RX12 71 "HookPierModel" "spot" "I") (List.mem_of_getElem? (i := 2) rfl)) (fun _ h9 => h9) rfl (zat zrX12_goesOn_0_ok 7 rfl) ?_
      obtain ⟨o14, eo14, h⟩ := bd_of h
      refine ck_i (wc := ([(a0, .inr (9, [g3, g4, g5, g6, g7, .ref a1, .int v9_m_s.2.1, .int v9_m_s.2.2.1, .int v9_m_s.2.2.2.1, .int v9_m_s.2.2.2.2.1, .int v9_m_s.2.2.2.2.2.1, .int v9_m_s.2.2.2.2.2.2.1, .int v9_m_s.2.2.2.2.2.2.2.1, .int v9_m_s.2.2.2.2.2.2.2.2.1, .long v9_m_s.2.2.2.2.2.2.2.2.2, g8, g9, g10, g11, g12, g13, g14, g15, g16, g17, g18, g19, g20, g21, g22])), (a1, .inl (cB23, 900, .inl v9_m_s.1))])) (wr := []) hP hD hK hS hA [0, 1] [] rfl rfl (by decide) (by decide) (by decide) (fun hPc hDc => (va_runV (As := [.int v9_m_s.2.2.2.1]) (rest := []) ⟨hx, hb, hml, hown, hts⟩ (kfX12_byteAt l dC dI a0 v9_m_s.2.2.2.1 a1 v9_m_s (g3) (g4) (g5) (g6) (g7) (g8) (g9) (g10) (g11) (g12) (g13) (g14) (g15) (g16) (g17) (g18) (g19) (g20) (g21) (g22) cB23 H.size o14 eo14) (cwV 1 hts gfX12_goesOn_0 rfl rfl rfl (by decide +kernel) ⟨(Nat.le_of_ble_eq_true rfl), (Nat.le_of_ble_eq_true rfl)⟩) (PV hPc (hK.sub (tys' := ((cB23, .byte) :: [])) [0] rfl) hDc hN 0 rfl rfl) rfl rfl hl.1 rfl (lv_room (Nat.le_of_ble_eq_true rfl)) (zat zrX12_goesOn_0_ok 8 rfl) ⟨(Nat.le_of_ble_eq_true rfl), (Nat.le_of_ble_eq_true rfl)⟩)) (fun r14 _ H locs hw hP hD _ hS => ?_)
      obtain rfl := hw.symm
      obtain ⟨hP, hD⟩ := pd_mk ([(a0, .inr (9, [g3, g4, g5, g6, g7, .ref a1, .int v9_m_s.2.1, .int v9_m_s.2.2.1, .int v9_m_s.2.2.2.1, .int v9_m_s.2.2.2.2.1, .int v9_m_s.2.2.2.2.2.1, .int v9_m_s.2.2.2.2.2.2.1, .int v9_m_s.2.2.2.2.2.2.2.1, .int v9_m_s.2.2.2.2.2.2.2.2.1, .long v9_m_s.2.2.2.2.2.2.2.2.2, g8, g9, g10, g11, g12, g13, g14, g15, g16, g17, g18, g19, g20, g21, g22])), (a1, .inl (cB23, 900, .inl v9_m_s.1))]) hP hD
      refine lv_bipush (v := 32) hx hb (zat zrX12_goesOn_0_ok 9 rfl) (by decide) ?_
      refine lv_icmp_ne (tgt := 35) hx hb (zat zrX12_goesOn_0_ok 10 rfl) (by decide) (fun c19 => ?_) (fun c19 => ?_)
      · have h := (if_neg c19).symm.trans h
        refine lv_aload_n hx hb (zat zrX12_goesOn_0_ok 18 rfl) rfl (lv_at hl 0 rfl) ?_
        refine lv_aload_n hx hb (zat zrX12_goesOn_0_ok 19 rfl) rfl (lv_at hl 0 rfl) ?_
        refine va_get (D := (dC, dI)) (ci := 9) (v := .int v9_m_s.2.2.2.1) (C := RX12) (T := TX12) (N := 30) hx hb hts ifX12_goesOn_X12 hown hK hP 0 rfl rfl 8 (by decide) (hts (.fieldLink RX12 71 "HookPierModel" "spot" "I") (List.mem_of_getElem? (i := 2) rfl)) (fun _ h9 => h9) rfl (zat zrX12_goesOn_0_ok 20 rfl) ?_
        refine va_put (D := (dC, dI)) (ci := 9) (v := .int v9_m_s.2.2.2.1) (ty := .int) (C := RX12) (T := TX12) (N := 30) hx hb hts ifX12_goesOn_X12 tyX12 tyX12_ok nmX12 hown hK hP hD hS 0 rfl rfl 10 (by decide) (hts (.fieldLink RX12 77 "HookPierModel" "place" "I") (List.mem_of_getElem? (i := 7) rfl)) (fun _ h9 => h9) rfl (by decide +kernel) rfl rfl (Nat.le_of_ble_eq_true rfl) (zat zrX12_goesOn_0_ok 21 rfl) (fun H locs hP hD hS => ?_)
        obtain ⟨hP, hD⟩ := pd_mk ([(a0, .inr (9, [g3, g4, g5, g6, g7, .ref a1, .int v9_m_s.2.1, .int v9_m_s.2.2.1, .int v9_m_s.2.2.2.1, .int v9_m_s.2.2.2.2.1, .int v9_m_s.2.2.2.1, .int v9_m_s.2.2.2.2.2.2.1, .int v9_m_s.2.2.2.2.2.2.2.1, .int v9_m_s.2.2.2.2.2.2.2.2.1, .long v9_m_s.2.2.2.2.2.2.2.2.2, g8, g9, g10, g11, g12, g13, g14, g15, g16, g17, g18, g19, g20, g21, g22])), (a1, .inl (cB23, 900, .inl v9_m_s.1))]) hP hD
        refine lv_aload_n hx hb (zat zrX12_goesOn_0_ok 22 rfl) rfl (lv_at hl 0 rfl) ?_
        refine lv_iconst (v := 0) hx hb (zat zrX12_goesOn_0_ok 23 rfl) (by decide) ?_
        refine va_put (D := (dC, dI)) (ci := 9) (v := .int 0) (ty := .int) (C := RX12) (T := TX12) (N := 30) hx hb hts ifX12_goesOn_X12 tyX12 tyX12_ok nmX12 hown hK hP hD hS 0 rfl rfl 9 (by decide) (hts (.fieldLink RX12 68 "HookPierModel" "sort" "I") (List.mem_of_getElem? (i := 1) rfl)) (fun _ h9 => h9) rfl (by decide +kernel) rfl rfl (Nat.le_of_ble_eq_true rfl) (zat zrX12_goesOn_0_ok 24 rfl) (fun H locs hP hD hS => ?_)
        obtain ⟨hP, hD⟩ := pd_mk ([(a0, .inr (9, [g3, g4, g5, g6, g7, .ref a1, .int v9_m_s.2.1, .int v9_m_s.2.2.1, .int v9_m_s.2.2.2.1, .int 0, .int v9_m_s.2.2.2.1, .int v9_m_s.2.2.2.2.2.2.1, .int v9_m_s.2.2.2.2.2.2.2.1, .int v9_m_s.2.2.2.2.2.2.2.2.1, .long v9_m_s.2.2.2.2.2.2.2.2.2, g8, g9, g10, g11, g12, g13, g14, g15, g16, g17, g18, g19, g20, g21, g22])), (a1, .inl (cB23, 900, .inl v9_m_s.1))]) hP hD
        refine lv_aload_n hx hb (zat zrX12_goesOn_0_ok 25 rfl) rfl (lv_at hl 0 rfl) ?_
        refine lv_aload_n hx hb (zat zrX12_goesOn_0_ok 26 rfl) rfl (lv_at hl 0 rfl) ?_
        refine va_get (D := (dC, dI)) (ci := 9) (v := .int v9_m_s.2.2.2.1) (C := RX12) (T := TX12) (N := 30) hx hb hts ifX12_goesOn_X12 hown hK hP 0 rfl rfl 8 (by decide) (hts (.fieldLink RX12 71 "HookPierModel" "spot" "I") (List.mem_of_getElem? (i := 2) rfl)) (fun _ h9 => h9) rfl (zat zrX12_goesOn_0_ok 27 rfl) ?_
        obtain ⟨o53, eo53, h⟩ := bd_of h
        refine ck_i (wc := ([(a0, .inr (9, [g3, g4, g5, g6, g7, .ref a1, .int v9_m_s.2.1, .int v9_m_s.2.2.1, .int v9_m_s.2.2.2.1, .int 0, .int v9_m_s.2.2.2.1, .int v9_m_s.2.2.2.2.2.2.1, .int v9_m_s.2.2.2.2.2.2.2.1, .int v9_m_s.2.2.2.2.2.2.2.2.1, .long v9_m_s.2.2.2.2.2.2.2.2.2, g8, g9, g10, g11, g12, g13, g14, g15, g16, g17, g18, g19, g20, g21, g22])), (a1, .inl (cB23, 900, .inl v9_m_s.1))])) (wr := []) hP hD hK hS hA [0, 1] [] rfl rfl (by decide) (by decide) (by decide) (fun hPc hDc => (va_runV (As := [.int v9_m_s.2.2.2.1]) (rest := []) ⟨hx, hb, hml, hown, hts⟩ (kfX12_byteAt l dC dI a0 v9_m_s.2.2.2.1 a1 (v9_m_s.1, v9_m_s.2.1, v9_m_s.2.2.1, v9_m_s.2.2.2.1, (0 : Int32), v9_m_s.2.2.2.1, v9_m_s.2.2.2.2.2.2) (g3) (g4) (g5) (g6) (g7) (g8) (g9) (g10) (g11) (g12) (g13) (g14) (g15) (g16) (g17) (g18) (g19) (g20) (g21) (g22) cB23 H.size o53 eo53) (cwV 1 hts gfX12_goesOn_0 rfl rfl rfl (by decide +kernel) ⟨(Nat.le_of_ble_eq_true rfl), (Nat.le_of_ble_eq_true rfl)⟩) (PV hPc (hK.sub (tys' := ((cB23, .byte) :: [])) [0] rfl) hDc hN 0 rfl rfl) rfl rfl hl.1 rfl (lv_room (Nat.le_of_ble_eq_true rfl)) (zat zrX12_goesOn_0_ok 28 rfl) ⟨(Nat.le_of_ble_eq_true rfl), (Nat.le_of_ble_eq_true rfl)⟩)) (fun r53 _ H locs hw hP hD _ hS => ?_)
        obtain rfl := hw.symm
        obtain ⟨hP, hD⟩ := pd_mk ([(a0, .inr (9, [g3, g4, g5, g6, g7, .ref a1, .int v9_m_s.2.1, .int v9_m_s.2.2.1, .int v9_m_s.2.2.2.1, .int 0, .int v9_m_s.2.2.2.1, .int v9_m_s.2.2.2.2.2.2.1, .int v9_m_s.2.2.2.2.2.2.2.1, .int v9_m_s.2.2.2.2.2.2.2.2.1, .long v9_m_s.2.2.2.2.2.2.2.2.2, g8, g9, g10, g11, g12, g13, g14, g15, g16, g17, g18, g19, g20, g21, g22])), (a1, .inl (cB23, 900, .inl v9_m_s.1))]) hP hD
        refine lv_istore_n (lv' := [(1, .int o53), (0, .ref a0)]) hx hb (zat zrX12_goesOn_0_ok 29 rfl) rfl hl (by decide) rfl (fun ls hl => ?_)
        refine lv_iconst (v := 0) hx hb (zat zrX12_goesOn_0_ok 30 rfl) (by decide) ?_
        refine lv_istore_n (lv' := [(2, .int 0), (1, .int o53), (0, .ref a0)]) hx hb (zat zrX12_goesOn_0_ok 31 rfl) rfl hl (by decide) rfl (fun ls hl => ?_)
        refine lv_iload_n hx hb (zat zrX12_goesOn_0_ok 32 rfl) rfl (lv_at hl 1 rfl) ?_
        refine lv_iconst (v := (-1)) hx hb (zat zrX12_goesOn_0_ok 33 rfl) (by decide) ?_
        refine lv_icmp_ne (tgt := 72) hx hb (zat zrX12_goesOn_0_ok 34 rfl) (by decide) (fun c61 => ?_) (fun c61 => ?_)
        · have h := (if_neg c61).symm.trans h
          refine lv_iload_n hx hb (zat zrX12_goesOn_0_ok 39 rfl) rfl (lv_at hl 1 rfl) ?_
          obtain ⟨o73, eo73⟩ : ∃ o, o = f_X12_isLetter o53 := ⟨_, rfl⟩
          have h := nm_of h o73 eo73
          refine ck_i (wc := []) (wr := ([(a0, .inr (9, [g3, g4, g5, g6, g7, .ref a1, .int v9_m_s.2.1, .int v9_m_s.2.2.1, .int v9_m_s.2.2.2.1, .int 0, .int v9_m_s.2.2.2.1, .int v9_m_s.2.2.2.2.2.2.1, .int v9_m_s.2.2.2.2.2.2.2.1, .int v9_m_s.2.2.2.2.2.2.2.2.1, .long v9_m_s.2.2.2.2.2.2.2.2.2, g8, g9, g10, g11, g12, g13, g14, g15, g16, g17, g18, g19, g20, g21, g22])), (a1, .inl (cB23, 900, .inl v9_m_s.1))])) hP hD hK hS hA [] [0, 1] rfl rfl (by decide) (by decide) (by decide) (fun hPc hDc => (va_runS (As := [.int o53]) (rest := []) ⟨hx, hb, hml, hown, hts⟩ (kfX12_isLetter l dC dI o53 H.size o73 eo73.symm) (va_cwS 1 hts gfX12_goesOn_1 rfl rfl rfl (by decide +kernel) ⟨(Nat.le_of_ble_eq_true rfl), (Nat.le_of_ble_eq_true rfl)⟩) (PS hPc (hK.sub (tys' := ([])) [] rfl) hDc hN) rfl rfl hl.1 rfl (lv_room (Nat.le_of_ble_eq_true rfl)) (zat zrX12_goesOn_0_ok 40 rfl) ⟨(Nat.le_of_ble_eq_true rfl), (Nat.le_of_ble_eq_true rfl)⟩)) (fun r73 _ H locs hw hP hD _ hS => ?_)
          obtain ⟨hw, br73⟩ := hw
          obtain rfl := hw.symm
          obtain ⟨hP, hD⟩ := pd_mk ([(a0, .inr (9, [g3, g4, g5, g6, g7, .ref a1, .int v9_m_s.2.1, .int v9_m_s.2.2.1, .int v9_m_s.2.2.2.1, .int 0, .int v9_m_s.2.2.2.1, .int v9_m_s.2.2.2.2.2.2.1, .int v9_m_s.2.2.2.2.2.2.2.1, .int v9_m_s.2.2.2.2.2.2.2.2.1, .long v9_m_s.2.2.2.2.2.2.2.2.2, g8, g9, g10, g11, g12, g13, g14, g15, g16, g17, g18, g19, g20, g21, g22])), (a1, .inl (cB23, 900, .inl v9_m_s.1))]) hP hD
          refine lv_if_eq (tgt := 161) hx hb (zat zrX12_goesOn_0_ok 41 rfl) (by decide) (fun c76 => ?_) (fun c76 => ?_)
          · have h := (if_pos c76).symm.trans h
            refine lv_iload_n hx hb (zat zrX12_goesOn_1_ok 21 rfl) rfl (lv_at hl 1 rfl) ?_
            obtain ⟨o162, eo162⟩ : ∃ o, o = f_X12_isDigit o53 := ⟨_, rfl⟩
            have h := nm_of h o162 eo162
            refine ck_i (wc := []) (wr := ([(a0, .inr (9, [g3, g4, g5, g6, g7, .ref a1, .int v9_m_s.2.1, .int v9_m_s.2.2.1, .int v9_m_s.2.2.2.1, .int 0, .int v9_m_s.2.2.2.1, .int v9_m_s.2.2.2.2.2.2.1, .int v9_m_s.2.2.2.2.2.2.2.1, .int v9_m_s.2.2.2.2.2.2.2.2.1, .long v9_m_s.2.2.2.2.2.2.2.2.2, g8, g9, g10, g11, g12, g13, g14, g15, g16, g17, g18, g19, g20, g21, g22])), (a1, .inl (cB23, 900, .inl v9_m_s.1))])) hP hD hK hS hA [] [0, 1] rfl rfl (by decide) (by decide) (by decide) (fun hPc hDc => (va_runS (As := [.int o53]) (rest := []) ⟨hx, hb, hml, hown, hts⟩ (kfX12_isDigit l dC dI o53 H.size o162 eo162.symm) (va_cwS 1 hts gfX12_goesOn_2 rfl rfl rfl (by decide +kernel) ⟨(Nat.le_of_ble_eq_true rfl), (Nat.le_of_ble_eq_true rfl)⟩) (PS hPc (hK.sub (tys' := ([])) [] rfl) hDc hN) rfl rfl hl.1 rfl (lv_room (Nat.le_of_ble_eq_true rfl)) (zat zrX12_goesOn_1_ok 22 rfl) ⟨(Nat.le_of_ble_eq_true rfl), (Nat.le_of_ble_eq_true rfl)⟩)) (fun r162 _ H locs hw hP hD _ hS => ?_)
            obtain ⟨hw, br162⟩ := hw
            obtain rfl := hw.symm
            obtain ⟨hP, hD⟩ := pd_mk ([(a0, .inr (9, [g3, g4, g5, g6, g7, .ref a1, .int v9_m_s.2.1, .int v9_m_s.2.2.1, .int v9_m_s.2.2.2.1, .int 0, .int v9_m_s.2.2.2.1, .int v9_m_s.2.2.2.2.2.2.1, .int v9_m_s.2.2.2.2.2.2.2.1, .int v9_m_s.2.2.2.2.2.2.2.2.1, .long v9_m_s.2.2.2.2.2.2.2.2.2, g8, g9, g10, g11, g12, g13, g14, g15, g16, g17, g18, g19, g20, g21, g22])), (a1, .inl (cB23, 900, .inl v9_m_s.1))]) hP hD
            refine lv_if_eq (tgt := 244) hx hb (zat zrX12_goesOn_1_ok 23 rfl) (by decide) (fun c165 => ?_) (fun c165 => ?_)
            · have h := (if_pos c165).symm.trans h
              refine lv_iload_n hx hb (zat zrX12_goesOn_2_ok 0 rfl) rfl (lv_at hl 1 rfl) ?_
              refine lv_bipush (v := 59) hx hb (zat zrX12_goesOn_2_ok 1 rfl) (by decide) ?_
              refine lv_icmp_ne (tgt := 265) hx hb (zat zrX12_goesOn_2_ok 2 rfl) (by decide) (fun c247 => ?_) (fun c247 => ?_)
              · have h := (if_neg c247).symm.trans h
                obtain rfl := Option.some.inj h
                obtain ⟨hP9, hD9⟩ := pd_sub ([(a0, .inr (9, [g3, g4, g5, g6, g7, .ref a1, .int v9_m_s.2.1, .int v9_m_s.2.2.1, .int v9_m_s.2.2.2.1, .int 0, .int v9_m_s.2.2.2.1, .int v9_m_s.2.2.2.2.2.2.1, .int v9_m_s.2.2.2.2.2.2.2.1, .int v9_m_s.2.2.2.2.2.2.2.2.1, .long v9_m_s.2.2.2.2.2.2.2.2.2, g8, g9, g10, g11, g12, g13, g14, g15, g16, g17, g18, g19, g20, g21, g22])), (a1, .inl (cB23, 900, .inl v9_m_s.1))]) [0, 1] hP hD (by decide) rfl
                have hK9 := hK.sub (tys' := []) [] rfl
                rw [hQQ]
                exact W.vret hx hb hr (fun t ht hW => ⟨⟨(), rfl, trivial, by rw [ht]; exact hP9, va_K.moved hW.alike hK9, hD9⟩, hS.F ht⟩) hS.2.2 (zat zrX12_goesOn_2_ok 12 rfl)
              · have h := (if_pos c247).symm.trans h
                refine lv_aload_n hx hb (zat zrX12_goesOn_2_ok 3 rfl) rfl (lv_at hl 2 rfl) ?_
                refine lv_iconst (v := 4) hx hb (zat zrX12_goesOn_2_ok 4 rfl) (by decide) ?_
                refine va_put (D := (dC, dI)) (ci := 9) (v := .int 4) (ty := .int) (C := RX12) (T := TX12) (N := 30) hx hb hts ifX12_goesOn_X12 tyX12 tyX12_ok nmX12 hown hK hP hD hS 0 rfl rfl 9 (by decide) (hts (.fieldLink RX12 68 "HookPierModel" "sort" "I") (List.mem_of_getElem? (i := 1) rfl)) (fun _ h9 => h9) rfl (by decide +kernel) rfl rfl (Nat.le_of_ble_eq_true rfl) (zat zrX12_goesOn_2_ok 5 rfl) (fun H locs hP hD hS => ?_)
                obtain ⟨hP, hD⟩ := pd_mk ([(a0, .inr (9, [g3, g4, g5, g6, g7, .ref a1, .int v9_m_s.2.1, .int v9_m_s.2.2.1, .int v9_m_s.2.2.2.1, .int 4, .int v9_m_s.2.2.2.1, .int v9_m_s.2.2.2.2.2.2.1, .int v9_m_s.2.2.2.2.2.2.2.1, .int v9_m_s.2.2.2.2.2.2.2.2.1, .long v9_m_s.2.2.2.2.2.2.2.2.2, g8, g9, g10, g11, g12, g13, g14, g15, g16, g17, g18, g19, g20, g21, g22])), (a1, .inl (cB23, 900, .inl v9_m_s.1))]) hP hD
                refine lv_aload_n hx hb (zat zrX12_goesOn_2_ok 6 rfl) rfl (lv_at hl 2 rfl) ?_
                refine lv_dup hx hb (zat zrX12_goesOn_2_ok 7 rfl) rfl ?_
                refine va_get (D := (dC, dI)) (ci := 9) (v := .int v9_m_s.2.2.2.1) (C := RX12) (T := TX12) (N := 30) hx hb hts ifX12_goesOn_X12 hown hK hP 0 rfl rfl 8 (by decide) (hts (.fieldLink RX12 71 "HookPierModel" "spot" "I") (List.mem_of_getElem? (i := 2) rfl)) (fun _ h9 => h9) rfl (zat zrX12_goesOn_2_ok 8 rfl) ?_
                refine lv_iconst (v := 1) hx hb (zat zrX12_goesOn_2_ok 9 rfl) (by decide) ?_
                refine lv_iadd hx hb (zat zrX12_goesOn_2_ok 10 rfl) ?_
                refine va_put (D := (dC, dI)) (ci := 9) (v := .int (v9_m_s.2.2.2.1 + (1 : Int32))) (ty := .int) (C := RX12) (T := TX12) (N := 30) hx hb hts ifX12_goesOn_X12 tyX12 tyX12_ok nmX12 hown hK hP hD hS 0 rfl rfl 8 (by decide) (hts (.fieldLink RX12 71 "HookPierModel" "spot" "I") (List.mem_of_getElem? (i := 2) rfl)) (fun _ h9 => h9) rfl (by decide +kernel) rfl rfl (Nat.le_of_ble_eq_true rfl) (zat zrX12_goesOn_2_ok 11 rfl) (fun H locs hP hD hS => ?_)
                obtain ⟨hP, hD⟩ := pd_mk ([(a0, .inr (9, [g3, g4, g5, g6, g7, .ref a1, .int v9_m_s.2.1, .int v9_m_s.2.2.1, .int (v9_m_s.2.2.2.1 + (1 : Int32)), .int 4, .int v9_m_s.2.2.2.1, .int v9_m_s.2.2.2.2.2.2.1, .int v9_m_s.2.2.2.2.2.2.2.1, .int v9_m_s.2.2.2.2.2.2.2.2.1, .long v9_m_s.2.2.2.2.2.2.2.2.2, g8, g9, g10, g11, g12, g13, g14, g15, g16, g17, g18, g19, g20, g21, g22])), (a1, .inl (cB23, 900, .inl v9_m_s.1))]) hP hD
                obtain rfl := Option.some.inj h
                obtain ⟨hP9, hD9⟩ := pd_sub ([(a0, .inr (9, [g3, g4, g5, g6, g7, .ref a1, .int v9_m_s.2.1, .int v9_m_s.2.2.1, .int (v9_m_s.2.2.2.1 + (1 : Int32)), .int 4, .int v9_m_s.2.2.2.1, .int v9_m_s.2.2.2.2.2.2.1, .int v9_m_s.2.2.2.2.2.2.2.1, .int v9_m_s.2.2.2.2.2.2.2.2.1, .long v9_m_s.2.2.2.2.2.2.2.2.2, g8, g9, g10, g11, g12, g13, g14, g15, g16, g17, g18, g19, g20, g21, g22])), (a1, .inl (cB23, 900, .inl v9_m_s.1))]) [0, 1] hP hD (by decide) rfl
                have hK9 := hK.sub (tys' := []) [] rfl
                rw [hQQ]
                exact W.vret hx hb hr (fun t ht hW => ⟨⟨(), rfl, trivial, by rw [ht]; exact hP9, va_K.moved hW.alike hK9, hD9⟩, hS.F ht⟩) hS.2.2 (zat zrX12_goesOn_2_ok 12 rfl)
            · have h := (if_neg c165).symm.trans h
              refine lv_aload_n hx hb (zat zrX12_goesOn_1_ok 24 rfl) rfl (lv_at hl 2 rfl) ?_
              refine lv_iconst (v := 0) hx hb (zat zrX12_goesOn_1_ok 25 rfl) (by decide) ?_
              refine va_put (D := (dC, dI)) (ci := 9) (v := .int 0) (ty := .int) (C := RX12) (T := TX12) (N := 30) hx hb hts ifX12_goesOn_X12 tyX12 tyX12_ok nmX12 hown hK hP hD hS 0 rfl rfl 11 (by decide) (hts (.fieldLink RX12 91 "HookPierModel" "number" "I") (List.mem_of_getElem? (i := 12) rfl)) (fun _ h9 => h9) rfl (by decide +kernel) rfl rfl (Nat.le_of_ble_eq_true rfl) (zat zrX12_goesOn_1_ok 26 rfl) (fun H locs hP hD hS => ?_)
              obtain ⟨hP, hD⟩ := pd_mk ([(a0, .inr (9, [g3, g4, g5, g6, g7, .ref a1, .int v9_m_s.2.1, .int v9_m_s.2.2.1, .int v9_m_s.2.2.2.1, .int 0, .int v9_m_s.2.2.2.1, .int 0, .int v9_m_s.2.2.2.2.2.2.2.1, .int v9_m_s.2.2.2.2.2.2.2.2.1, .long v9_m_s.2.2.2.2.2.2.2.2.2, g8, g9, g10, g11, g12, g13, g14, g15, g16, g17, g18, g19, g20, g21, g22])), (a1, .inl (cB23, 900, .inl v9_m_s.1))]) hP hD
              have L173 : ∀ (n173 : Nat) (v173_l2 : Int32) (v173_m_s : TX12_s) (H : Heap) (locs : List Loc) (ls : Array Slot), f_X12_goesOn_L173 n173 v173_l2 v173_m_s = some out → va_P (dC, dI) vwCl ([(a0, .inr (9, [g3, g4, g5, g6, g7, .ref a1, .int v173_m_s.2.1, .int v173_m_s.2.2.1, .int v173_m_s.2.2.2.1, .int v173_m_s.2.2.2.2.1, .int v173_m_s.2.2.2.2.2.1, .int v173_m_s.2.2.2.2.2.2.1, .int v173_m_s.2.2.2.2.2.2.2.1, .int v173_m_s.2.2.2.2.2.2.2.2.1, .long v173_m_s.2.2.2.2.2.2.2.2.2, g8, g9, g10, g11, g12, g13, g14, g15, g16, g17, g18, g19, g20, g21, g22])), (a1, .inl (cB23, 900, .inl v173_m_s.1))]) H → va_D A ([(a0, .inr (9, [g3, g4, g5, g6, g7, .ref a1, .int v173_m_s.2.1, .int v173_m_s.2.2.1, .int v173_m_s.2.2.2.1, .int v173_m_s.2.2.2.2.1, .int v173_m_s.2.2.2.2.2.1, .int v173_m_s.2.2.2.2.2.2.1, .int v173_m_s.2.2.2.2.2.2.2.1, .int v173_m_s.2.2.2.2.2.2.2.2.1, .long v173_m_s.2.2.2.2.2.2.2.2.2, g8, g9, g10, g11, g12, g13, g14, g15, g16, g17, g18, g19, g20, g21, g22])), (a1, .inl (cB23, 900, .inl v173_m_s.1))]) → va_S A s.heap H locs → lv_has ls 3 [(2, .int v173_l2), (0, .ref a0)] → W p l e (headSpec vfX12_goesOn { frames := 1, cells := 0, slots := 0, locals := 21 }).room s m ([.ref a0]).toArray below meth c H locs 0 0 QQ (F0 m 173 ls []) := by
                intro n173
                induction n173 with
                | zero =>
                  intro v173_l2 v173_m_s H locs ls h  _ _ _ _
                  rw [f_X12_goesOn_L173] at h
                  cases h
                | succ n173 ih173 =>
                  intro v173_l2 v173_m_s H locs ls h  hP hD hS hl
                  rw [f_X12_goesOn_L173] at h
                  refine lv_aload_n hx hb (zat zrX12_goesOn_1_ok 27 rfl) rfl (lv_at hl 1 rfl) ?_
                  refine lv_aload_n hx hb (zat zrX12_goesOn_1_ok 28 rfl) rfl (lv_at hl 1 rfl) ?_
                  refine va_get (D := (dC, dI)) (ci := 9) (v := .int v173_m_s.2.2.2.1) (C := RX12) (T := TX12) (N := 30) hx hb hts ifX12_goesOn_X12 hown hK hP 0 rfl rfl 8 (by decide) (hts (.fieldLink RX12 71 "HookPierModel" "spot" "I") (List.mem_of_getElem? (i := 2) rfl)) (fun _ h9 => h9) rfl (zat zrX12_goesOn_1_ok 29 rfl) ?_
                  obtain ⟨o178, eo178, h⟩ := bd_of h
                  refine ck_i (wc := ([(a0, .inr (9, [g3, g4, g5, g6, g7, .ref a1, .int v173_m_s.2.1, .int v173_m_s.2.2.1, .int v173_m_s.2.2.2.1, .int v173_m_s.2.2.2.2.1, .int v173_m_s.2.2.2.2.2.1, .int v173_m_s.2.2.2.2.2.2.1, .int v173_m_s.2.2.2.2.2.2.2.1, .int v173_m_s.2.2.2.2.2.2.2.2.1, .long v173_m_s.2.2.2.2.2.2.2.2.2, g8, g9, g10, g11, g12, g13, g14, g15, g16, g17, g18, g19, g20, g21, g22])), (a1, .inl (cB23, 900, .inl v173_m_s.1))])) (wr := []) hP hD hK hS hA [0, 1] [] rfl rfl (by decide) (by decide) (by decide) (fun hPc hDc => (va_runV (As := [.int v173_m_s.2.2.2.1]) (rest := []) ⟨hx, hb, hml, hown, hts⟩ (kfX12_byteAt l dC dI a0 v173_m_s.2.2.2.1 a1 v173_m_s (g3) (g4) (g5) (g6) (g7) (g8) (g9) (g10) (g11) (g12) (g13) (g14) (g15) (g16) (g17) (g18) (g19) (g20) (g21) (g22) cB23 H.size o178 eo178) (cwV 1 hts gfX12_goesOn_0 rfl rfl rfl (by decide +kernel) ⟨(Nat.le_of_ble_eq_true rfl), (Nat.le_of_ble_eq_true rfl)⟩) (PV hPc (hK.sub (tys' := ((cB23, .byte) :: [])) [0] rfl) hDc hN 0 rfl rfl) rfl rfl hl.1 rfl (lv_room (Nat.le_of_ble_eq_true rfl)) (zat zrX12_goesOn_1_ok 30 rfl) ⟨(Nat.le_of_ble_eq_true rfl), (Nat.le_of_ble_eq_true rfl)⟩)) (fun r178 _ H locs hw hP hD _ hS => ?_)
                  obtain rfl := hw.symm
                  obtain ⟨hP, hD⟩ := pd_mk ([(a0, .inr (9, [g3, g4, g5, g6, g7, .ref a1, .int v173_m_s.2.1, .int v173_m_s.2.2.1, .int v173_m_s.2.2.2.1, .int v173_m_s.2.2.2.2.1, .int v173_m_s.2.2.2.2.2.1, .int v173_m_s.2.2.2.2.2.2.1, .int v173_m_s.2.2.2.2.2.2.2.1, .int v173_m_s.2.2.2.2.2.2.2.2.1, .long v173_m_s.2.2.2.2.2.2.2.2.2, g8, g9, g10, g11, g12, g13, g14, g15, g16, g17, g18, g19, g20, g21, g22])), (a1, .inl (cB23, 900, .inl v173_m_s.1))]) hP hD
                  obtain ⟨o181, eo181⟩ : ∃ o, o = f_X12_isDigit o178 := ⟨_, rfl⟩
                  have h := nm_of h o181 eo181
                  refine ck_i (wc := []) (wr := ([(a0, .inr (9, [g3, g4, g5, g6, g7, .ref a1, .int v173_m_s.2.1, .int v173_m_s.2.2.1, .int v173_m_s.2.2.2.1, .int v173_m_s.2.2.2.2.1, .int v173_m_s.2.2.2.2.2.1, .int v173_m_s.2.2.2.2.2.2.1, .int v173_m_s.2.2.2.2.2.2.2.1, .int v173_m_s.2.2.2.2.2.2.2.2.1, .long v173_m_s.2.2.2.2.2.2.2.2.2, g8, g9, g10, g11, g12, g13, g14, g15, g16, g17, g18, g19, g20, g21, g22])), (a1, .inl (cB23, 900, .inl v173_m_s.1))])) hP hD hK hS hA [] [0, 1] rfl rfl (by decide) (by decide) (by decide) (fun hPc hDc => (va_runS (As := [.int o178]) (rest := []) ⟨hx, hb, hml, hown, hts⟩ (kfX12_isDigit l dC dI o178 H.size o181 eo181.symm) (va_cwS 1 hts gfX12_goesOn_2 rfl rfl rfl (by decide +kernel) ⟨(Nat.le_of_ble_eq_true rfl), (Nat.le_of_ble_eq_true rfl)⟩) (PS hPc (hK.sub (tys' := ([])) [] rfl) hDc hN) rfl rfl hl.1 rfl (lv_room (Nat.le_of_ble_eq_true rfl)) (zat zrX12_goesOn_1_ok 31 rfl) ⟨(Nat.le_of_ble_eq_true rfl), (Nat.le_of_ble_eq_true rfl)⟩)) (fun r181 _ H locs hw hP hD _ hS => ?_)
                  obtain ⟨hw, br181⟩ := hw
                  obtain rfl := hw.symm
                  obtain ⟨hP, hD⟩ := pd_mk ([(a0, .inr (9, [g3, g4, g5, g6, g7, .ref a1, .int v173_m_s.2.1, .int v173_m_s.2.2.1, .int v173_m_s.2.2.2.1, .int v173_m_s.2.2.2.2.1, .int v173_m_s.2.2.2.2.2.1, .int v173_m_s.2.2.2.2.2.2.1, .int v173_m_s.2.2.2.2.2.2.2.1, .int v173_m_s.2.2.2.2.2.2.2.2.1, .long v173_m_s.2.2.2.2.2.2.2.2.2, g8, g9, g10, g11, g12, g13, g14, g15, g16, g17, g18, g19, g20, g21, g22])), (a1, .inl (cB23, 900, .inl v173_m_s.1))]) hP hD
                  refine lv_if_eq (tgt := 231) hx hb (zat zrX12_goesOn_1_ok 32 rfl) (by decide) (fun c184 => ?_) (fun c184 => ?_)
                  · have h := (if_pos c184).symm.trans h
                    refine lv_iload_n hx hb (zat zrX12_goesOn_1_ok 57 rfl) rfl (lv_at hl 0 rfl) ?_
                    refine lv_iconst (v := 2) hx hb (zat zrX12_goesOn_1_ok 58 rfl) (by decide) ?_
                    refine lv_icmp_gt (tgt := 265) hx hb (zat zrX12_goesOn_1_ok 59 rfl) (by decide) (fun c233 => ?_) (fun c233 => ?_)
                    · have h := (if_pos c233).symm.trans h
                      obtain rfl := Option.some.inj h
                      obtain ⟨hP9, hD9⟩ := pd_sub ([(a0, .inr (9, [g3, g4, g5, g6, g7, .ref a1, .int v173_m_s.2.1, .int v173_m_s.2.2.1, .int v173_m_s.2.2.2.1, .int v173_m_s.2.2.2.2.1, .int v173_m_s.2.2.2.2.2.1, .int v173_m_s.2.2.2.2.2.2.1, .int v173_m_s.2.2.2.2.2.2.2.1, .int v173_m_s.2.2.2.2.2.2.2.2.1, .long v173_m_s.2.2.2.2.2.2.2.2.2, g8, g9, g10, g11, g12, g13, g14, g15, g16, g17, g18, g19, g20, g21, g22])), (a1, .inl (cB23, 900, .inl v173_m_s.1))]) [0, 1] hP hD (by decide) rfl
                      have hK9 := hK.sub (tys' := []) [] rfl
                      rw [hQQ]
                      exact W.vret hx hb hr (fun t ht hW => ⟨⟨(), rfl, trivial, by rw [ht]; exact hP9, va_K.moved hW.alike hK9, hD9⟩, hS.F ht⟩) hS.2.2 (zat zrX12_goesOn_2_ok 12 rfl)
                    · have h := (if_neg c233).symm.trans h
                      refine lv_aload_n hx hb (zat zrX12_goesOn_1_ok 60 rfl) rfl (lv_at hl 1 rfl) ?_
                      refine lv_iconst (v := 3) hx hb (zat zrX12_goesOn_1_ok 61 rfl) (by decide) ?_
                      refine va_put (D := (dC, dI)) (ci := 9) (v := .int 3) (ty := .int) (C := RX12) (T := TX12) (N := 30) hx hb hts ifX12_goesOn_X12 tyX12 tyX12_ok nmX12 hown hK hP hD hS 0 rfl rfl 9 (by decide) (hts (.fieldLink RX12 68 "HookPierModel" "sort" "I") (List.mem_of_getElem? (i := 1) rfl)) (fun _ h9 => h9) rfl (by decide +kernel) rfl rfl (Nat.le_of_ble_eq_true rfl) (zat zrX12_goesOn_1_ok 62 rfl) (fun H locs hP hD hS => ?_)
                      obtain ⟨hP, hD⟩ := pd_mk ([(a0, .inr (9, [g3, g4, g5, g6, g7, .ref a1, .int v173_m_s.2.1, .int v173_m_s.2.2.1, .int v173_m_s.2.2.2.1, .int 3, .int v173_m_s.2.2.2.2.2.1, .int v173_m_s.2.2.2.2.2.2.1, .int v173_m_s.2.2.2.2.2.2.2.1, .int v173_m_s.2.2.2.2.2.2.2.2.1, .long v173_m_s.2.2.2.2.2.2.2.2.2, g8, g9, g10, g11, g12, g13, g14, g15, g16, g17, g18, g19, g20, g21, g22])), (a1, .inl (cB23, 900, .inl v173_m_s.1))]) hP hD
                      refine lv_goto (tgt := 265) hx hb (zat zrX12_goesOn_1_ok 63 rfl) (by decide) ?_
                      obtain rfl := Option.some.inj h
                      obtain ⟨hP9, hD9⟩ := pd_sub ([(a0, .inr (9, [g3, g4, g5, g6, g7, .ref a1, .int v173_m_s.2.1, .int v173_m_s.2.2.1, .int v173_m_s.2.2.2.1, .int 3, .int v173_m_s.2.2.2.2.2.1, .int v173_m_s.2.2.2.2.2.2.1, .int v173_m_s.2.2.2.2.2.2.2.1, .int v173_m_s.2.2.2.2.2.2.2.2.1, .long v173_m_s.2.2.2.2.2.2.2.2.2, g8, g9, g10, g11, g12, g13, g14, g15, g16, g17, g18, g19, g20, g21, g22])), (a1, .inl (cB23, 900, .inl v173_m_s.1))]) [0, 1] hP hD (by decide) rfl
                      have hK9 := hK.sub (tys' := []) [] rfl
                      rw [hQQ]
                      exact W.vret hx hb hr (fun t ht hW => ⟨⟨(), rfl, trivial, by rw [ht]; exact hP9, va_K.moved hW.alike hK9, hD9⟩, hS.F ht⟩) hS.2.2 (zat zrX12_goesOn_2_ok 12 rfl)
                  · have h := (if_neg c184).symm.trans h
                    refine lv_iload_n hx hb (zat zrX12_goesOn_1_ok 33 rfl) rfl (lv_at hl 0 rfl) ?_
                    refine lv_iconst (v := 2) hx hb (zat zrX12_goesOn_1_ok 34 rfl) (by decide) ?_
                    have J215 : ∀ (v215_m_s : TX12_s) (H : Heap) (locs : List Loc) (ls : Array Slot), f_X12_goesOn_J215 (f_X12_goesOn_L173 n173) v173_l2 v215_m_s = some out → va_P (dC, dI) vwCl ([(a0, .inr (9, [g3, g4, g5, g6, g7, .ref a1, .int v215_m_s.2.1, .int v215_m_s.2.2.1, .int v215_m_s.2.2.2.1, .int v215_m_s.2.2.2.2.1, .int v215_m_s.2.2.2.2.2.1, .int v215_m_s.2.2.2.2.2.2.1, .int v215_m_s.2.2.2.2.2.2.2.1, .int v215_m_s.2.2.2.2.2.2.2.2.1, .long v215_m_s.2.2.2.2.2.2.2.2.2, g8, g9, g10, g11, g12, g13, g14, g15, g16, g17, g18, g19, g20, g21, g22])), (a1, .inl (cB23, 900, .inl v215_m_s.1))]) H → va_D A ([(a0, .inr (9, [g3, g4, g5, g6, g7, .ref a1, .int v215_m_s.2.1, .int v215_m_s.2.2.1, .int v215_m_s.2.2.2.1, .int v215_m_s.2.2.2.2.1, .int v215_m_s.2.2.2.2.2.1, .int v215_m_s.2.2.2.2.2.2.1, .int v215_m_s.2.2.2.2.2.2.2.1, .int v215_m_s.2.2.2.2.2.2.2.2.1, .long v215_m_s.2.2.2.2.2.2.2.2.2, g8, g9, g10, g11, g12, g13, g14, g15, g16, g17, g18, g19, g20, g21, g22])), (a1, .inl (cB23, 900, .inl v215_m_s.1))]) → va_S A s.heap H locs → lv_has ls 3 [(2, .int v173_l2), (0, .ref a0)] → W p l e (headSpec vfX12_goesOn { frames := 1, cells := 0, slots := 0, locals := 21 }).room s m ([.ref a0]).toArray below meth c H locs 0 0 QQ (F0 m 215 ls []) := by
                      intro v215_m_s H locs ls h  hP hD hS hl
                      rw [f_X12_goesOn_J215] at h
                      refine lv_iinc (v := (v173_l2 + (1 : Int32))) (lv' := [(2, .int (v173_l2 + (1 : Int32))), (0, .ref a0)]) hx hb (zat zrX12_goesOn_1_ok 49 rfl) hl (k := 0) rfl rfl (by decide) rfl (fun ls hl => ?_)
                      refine lv_aload_n hx hb (zat zrX12_goesOn_1_ok 50 rfl) rfl (lv_at hl 1 rfl) ?_
                      refine lv_dup hx hb (zat zrX12_goesOn_1_ok 51 rfl) rfl ?_
                      refine va_get (D := (dC, dI)) (ci := 9) (v := .int v215_m_s.2.2.2.1) (C := RX12) (T := TX12) (N := 30) hx hb hts ifX12_goesOn_X12 hown hK hP 0 rfl rfl 8 (by decide) (hts (.fieldLink RX12 71 "HookPierModel" "spot" "I") (List.mem_of_getElem? (i := 2) rfl)) (fun _ h9 => h9) rfl (zat zrX12_goesOn_1_ok 52 rfl) ?_
                      refine lv_iconst (v := 1) hx hb (zat zrX12_goesOn_1_ok 53 rfl) (by decide) ?_
                      refine lv_iadd hx hb (zat zrX12_goesOn_1_ok 54 rfl) ?_
                      refine va_put (D := (dC, dI)) (ci := 9) (v := .int (v215_m_s.2.2.2.1 + (1 : Int32))) (ty := .int) (C := RX12) (T := TX12) (N := 30) hx hb hts ifX12_goesOn_X12 tyX12 tyX12_ok nmX12 hown hK hP hD hS 0 rfl rfl 8 (by decide) (hts (.fieldLink RX12 71 "HookPierModel" "spot" "I") (List.mem_of_getElem? (i := 2) rfl)) (fun _ h9 => h9) rfl (by decide +kernel) rfl rfl (Nat.le_of_ble_eq_true rfl) (zat zrX12_goesOn_1_ok 55 rfl) (fun H locs hP hD hS => ?_)
                      obtain ⟨hP, hD⟩ := pd_mk ([(a0, .inr (9, [g3, g4, g5, g6, g7, .ref a1, .int v215_m_s.2.1, .int v215_m_s.2.2.1, .int (v215_m_s.2.2.2.1 + (1 : Int32)), .int v215_m_s.2.2.2.2.1, .int v215_m_s.2.2.2.2.2.1, .int v215_m_s.2.2.2.2.2.2.1, .int v215_m_s.2.2.2.2.2.2.2.1, .int v215_m_s.2.2.2.2.2.2.2.2.1, .long v215_m_s.2.2.2.2.2.2.2.2.2, g8, g9, g10, g11, g12, g13, g14, g15, g16, g17, g18, g19, g20, g21, g22])), (a1, .inl (cB23, 900, .inl v215_m_s.1))]) hP hD
                      refine lv_goto (tgt := 173) hx hb (zat zrX12_goesOn_1_ok 56 rfl) (by decide) ?_
                      exact ih173 (v173_l2 + (1 : Int32)) (v215_m_s.1, v215_m_s.2.1, v215_m_s.2.2.1, (v215_m_s.2.2.2.1 + (1 : Int32)), v215_m_s.2.2.2.2) H _ ls h  hP hD hS (lv_sub hl [0, 1] rfl)
                    refine lv_icmp_ge (tgt := 215) hx hb (zat zrX12_goesOn_1_ok 35 rfl) (by decide) (fun c189 => ?_) (fun c189 => ?_)
                    · have h := (if_pos c189).symm.trans h
                      exact J215 v173_m_s H _ ls h  hP hD hS (lv_sub hl [0, 1] rfl)
                    · have h := (if_neg c189).symm.trans h
                      refine lv_aload_n hx hb (zat zrX12_goesOn_1_ok 36 rfl) rfl (lv_at hl 1 rfl) ?_
                      refine lv_bipush (v := 10) hx hb (zat zrX12_goesOn_1_ok 37 rfl) (by decide) ?_
                      refine lv_aload_n hx hb (zat zrX12_goesOn_1_ok 38 rfl) rfl (lv_at hl 1 rfl) ?_
                      refine va_get (D := (dC, dI)) (ci := 9) (v := .int v173_m_s.2.2.2.2.2.2.1) (C := RX12) (T := TX12) (N := 30) hx hb hts ifX12_goesOn_X12 hown hK hP 0 rfl rfl 11 (by decide) (hts (.fieldLink RX12 91 "HookPierModel" "number" "I") (List.mem_of_getElem? (i := 12) rfl)) (fun _ h9 => h9) rfl (zat zrX12_goesOn_1_ok 39 rfl) ?_
                      refine lv_imul hx hb (zat zrX12_goesOn_1_ok 40 rfl) ?_
                      refine lv_aload_n hx hb (zat zrX12_goesOn_1_ok 41 rfl) rfl (lv_at hl 1 rfl) ?_
                      refine lv_aload_n hx hb (zat zrX12_goesOn_1_ok 42 rfl) rfl (lv_at hl 1 rfl) ?_
                      refine va_get (D := (dC, dI)) (ci := 9) (v := .int v173_m_s.2.2.2.1) (C := RX12) (T := TX12) (N := 30) hx hb hts ifX12_goesOn_X12 hown hK hP 0 rfl rfl 8 (by decide) (hts (.fieldLink RX12 71 "HookPierModel" "spot" "I") (List.mem_of_getElem? (i := 2) rfl)) (fun _ h9 => h9) rfl (zat zrX12_goesOn_1_ok 43 rfl) ?_
                      obtain ⟨o205, eo205, h⟩ := bd_of h
                      refine ck_i (wc := ([(a0, .inr (9, [g3, g4, g5, g6, g7, .ref a1, .int v173_m_s.2.1, .int v173_m_s.2.2.1, .int v173_m_s.2.2.2.1, .int v173_m_s.2.2.2.2.1, .int v173_m_s.2.2.2.2.2.1, .int v173_m_s.2.2.2.2.2.2.1, .int v173_m_s.2.2.2.2.2.2.2.1, .int v173_m_s.2.2.2.2.2.2.2.2.1, .long v173_m_s.2.2.2.2.2.2.2.2.2, g8, g9, g10, g11, g12, g13, g14, g15, g16, g17, g18, g19, g20, g21, g22])), (a1, .inl (cB23, 900, .inl v173_m_s.1))])) (wr := []) hP hD hK hS hA [0, 1] [] rfl rfl (by decide) (by decide) (by decide) (fun hPc hDc => (va_runV (As := [.int v173_m_s.2.2.2.1]) (rest := [.int ((10 : Int32) * v173_m_s.2.2.2.2.2.2.1), .ref a0]) ⟨hx, hb, hml, hown, hts⟩ (kfX12_byteAt l dC dI a0 v173_m_s.2.2.2.1 a1 v173_m_s (g3) (g4) (g5) (g6) (g7) (g8) (g9) (g10) (g11) (g12) (g13) (g14) (g15) (g16) (g17) (g18) (g19) (g20) (g21) (g22) cB23 H.size o205 eo205) (cwV 1 hts gfX12_goesOn_0 rfl rfl rfl (by decide +kernel) ⟨(Nat.le_of_ble_eq_true rfl), (Nat.le_of_ble_eq_true rfl)⟩) (PV hPc (hK.sub (tys' := ((cB23, .byte) :: [])) [0] rfl) hDc hN 0 rfl rfl) rfl rfl hl.1 rfl (lv_room (Nat.le_of_ble_eq_true rfl)) (zat zrX12_goesOn_1_ok 44 rfl) ⟨(Nat.le_of_ble_eq_true rfl), (Nat.le_of_ble_eq_true rfl)⟩)) (fun r205 _ H locs hw hP hD _ hS => ?_)
                      obtain rfl := hw.symm
                      obtain ⟨hP, hD⟩ := pd_mk ([(a0, .inr (9, [g3, g4, g5, g6, g7, .ref a1, .int v173_m_s.2.1, .int v173_m_s.2.2.1, .int v173_m_s.2.2.2.1, .int v173_m_s.2.2.2.2.1, .int v173_m_s.2.2.2.2.2.1, .int v173_m_s.2.2.2.2.2.2.1, .int v173_m_s.2.2.2.2.2.2.2.1, .int v173_m_s.2.2.2.2.2.2.2.2.1, .long v173_m_s.2.2.2.2.2.2.2.2.2, g8, g9, g10, g11, g12, g13, g14, g15, g16, g17, g18, g19, g20, g21, g22])), (a1, .inl (cB23, 900, .inl v173_m_s.1))]) hP hD
                      refine lv_iadd hx hb (zat zrX12_goesOn_1_ok 45 rfl) ?_
                      refine lv_bipush (v := 48) hx hb (zat zrX12_goesOn_1_ok 46 rfl) (by decide) ?_
                      refine lv_isub hx hb (zat zrX12_goesOn_1_ok 47 rfl) ?_
                      refine lv_topi (fun z211 ez211 => ?_)
                      have h := nm_of h z211 ez211
                      refine va_put (D := (dC, dI)) (ci := 9) (v := .int z211) (ty := .int) (C := RX12) (T := TX12) (N := 30) hx hb hts ifX12_goesOn_X12 tyX12 tyX12_ok nmX12 hown hK hP hD hS 0 rfl rfl 11 (by decide) (hts (.fieldLink RX12 91 "HookPierModel" "number" "I") (List.mem_of_getElem? (i := 12) rfl)) (fun _ h9 => h9) rfl (by decide +kernel) rfl rfl (Nat.le_of_ble_eq_true rfl) (zat zrX12_goesOn_1_ok 48 rfl) (fun H locs hP hD hS => ?_)
                      obtain ⟨hP, hD⟩ := pd_mk ([(a0, .inr (9, [g3, g4, g5, g6, g7, .ref a1, .int v173_m_s.2.1, .int v173_m_s.2.2.1, .int v173_m_s.2.2.2.1, .int v173_m_s.2.2.2.2.1, .int v173_m_s.2.2.2.2.2.1, .int z211, .int v173_m_s.2.2.2.2.2.2.2.1, .int v173_m_s.2.2.2.2.2.2.2.2.1, .long v173_m_s.2.2.2.2.2.2.2.2.2, g8, g9, g10, g11, g12, g13, g14, g15, g16, g17, g18, g19, g20, g21, g22])), (a1, .inl (cB23, 900, .inl v173_m_s.1))]) hP hD
                      exact J215 (v173_m_s.1, v173_m_s.2.1, v173_m_s.2.2.1, v173_m_s.2.2.2.1, v173_m_s.2.2.2.2.1, v173_m_s.2.2.2.2.2.1, z211, v173_m_s.2.2.2.2.2.2.2) H _ ls h  hP hD hS (lv_sub hl [0, 1] rfl)
              exact L173 FU (0 : Int32) (v9_m_s.1, v9_m_s.2.1, v9_m_s.2.2.1, v9_m_s.2.2.2.1, (0 : Int32), v9_m_s.2.2.2.1, (0 : Int32), v9_m_s.2.2.2.2.2.2.2) H _ ls h  hP hD hS (lv_sub hl [0, 2] rfl)
          · have h := (if_neg c76).symm.trans h
            refine lv_aload_n hx hb (zat zrX12_goesOn_0_ok 42 rfl) rfl (lv_at hl 2 rfl) ?_
            refine lv_lconst (v := 0) hx hb (zat zrX12_goesOn_0_ok 43 rfl) (by decide) ?_
            refine va_put (D := (dC, dI)) (ci := 9) (v := .long 0) (ty := .long) (C := RX12) (T := TX12) (N := 30) hx hb hts ifX12_goesOn_X12 tyX12 tyX12_ok nmX12 hown hK hP hD hS 0 rfl rfl 14 (by decide) (hts (.fieldLink RX12 84 "HookPierModel" "word" "J") (List.mem_of_getElem? (i := 13) rfl)) (fun _ h9 => h9) rfl (by decide +kernel) rfl rfl (Nat.le_of_ble_eq_true rfl) (zat zrX12_goesOn_0_ok 44 rfl) (fun H locs hP hD hS => ?_)
            obtain ⟨hP, hD⟩ := pd_mk ([(a0, .inr (9, [g3, g4, g5, g6, g7, .ref a1, .int v9_m_s.2.1, .int v9_m_s.2.2.1, .int v9_m_s.2.2.2.1, .int 0, .int v9_m_s.2.2.2.1, .int v9_m_s.2.2.2.2.2.2.1, .int v9_m_s.2.2.2.2.2.2.2.1, .int v9_m_s.2.2.2.2.2.2.2.2.1, .long 0, g8, g9, g10, g11, g12, g13, g14, g15, g16, g17, g18, g19, g20, g21, g22])), (a1, .inl (cB23, 900, .inl v9_m_s.1))]) hP hD
            have L84 : ∀ (n84 : Nat) (v84_l2 : Int32) (v84_m_s : TX12_s) (H : Heap) (locs : List Loc) (ls : Array Slot), f_X12_goesOn_L84 n84 v84_l2 v84_m_s = some out → va_P (dC, dI) vwCl ([(a0, .inr (9, [g3, g4, g5, g6, g7, .ref a1, .int v84_m_s.2.1, .int v84_m_s.2.2.1, .int v84_m_s.2.2.2.1, .int v84_m_s.2.2.2.2.1, .int v84_m_s.2.2.2.2.2.1, .int v84_m_s.2.2.2.2.2.2.1, .int v84_m_s.2.2.2.2.2.2.2.1, .int v84_m_s.2.2.2.2.2.2.2.2.1, .long v84_m_s.2.2.2.2.2.2.2.2.2, g8, g9, g10, g11, g12, g13, g14, g15, g16, g17, g18, g19, g20, g21, g22])), (a1, .inl (cB23, 900, .inl v84_m_s.1))]) H → va_D A ([(a0, .inr (9, [g3, g4, g5, g6, g7, .ref a1, .int v84_m_s.2.1, .int v84_m_s.2.2.1, .int v84_m_s.2.2.2.1, .int v84_m_s.2.2.2.2.1, .int v84_m_s.2.2.2.2.2.1, .int v84_m_s.2.2.2.2.2.2.1, .int v84_m_s.2.2.2.2.2.2.2.1, .int v84_m_s.2.2.2.2.2.2.2.2.1, .long v84_m_s.2.2.2.2.2.2.2.2.2, g8, g9, g10, g11, g12, g13, g14, g15, g16, g17, g18, g19, g20, g21, g22])), (a1, .inl (cB23, 900, .inl v84_m_s.1))]) → va_S A s.heap H locs → lv_has ls 3 [(2, .int v84_l2), (0, .ref a0)] → W p l e (headSpec vfX12_goesOn { frames := 1, cells := 0, slots := 0, locals := 21 }).room s m ([.ref a0]).toArray below meth c H locs 0 0 QQ (F0 m 84 ls []) := by
              intro n84
              induction n84 with
              | zero =>
                intro v84_l2 v84_m_s H locs ls h  _ _ _ _
                rw [f_X12_goesOn_L84] at h
                cases h
              | succ n84 ih84 =>
                intro v84_l2 v84_m_s H locs ls h  hP hD hS hl
                rw [f_X12_goesOn_L84] at h
                refine lv_aload_n hx hb (zat zrX12_goesOn_0_ok 45 rfl) rfl (lv_at hl 1 rfl) ?_
                refine lv_aload_n hx hb (zat zrX12_goesOn_0_ok 46 rfl) rfl (lv_at hl 1 rfl) ?_
                refine va_get (D := (dC, dI)) (ci := 9) (v := .int v84_m_s.2.2.2.1) (C := RX12) (T := TX12) (N := 30) hx hb hts ifX12_goesOn_X12 hown hK hP 0 rfl rfl 8 (by decide) (hts (.fieldLink RX12 71 "HookPierModel" "spot" "I") (List.mem_of_getElem? (i := 2) rfl)) (fun _ h9 => h9) rfl (zat zrX12_goesOn_0_ok 47 rfl) ?_
                obtain ⟨o89, eo89, h⟩ := bd_of h
                refine ck_i (wc := ([(a0, .inr (9, [g3, g4, g5, g6, g7, .ref a1, .int v84_m_s.2.1, .int v84_m_s.2.2.1, .int v84_m_s.2.2.2.1, .int v84_m_s.2.2.2.2.1, .int v84_m_s.2.2.2.2.2.1, .int v84_m_s.2.2.2.2.2.2.1, .int v84_m_s.2.2.2.2.2.2.2.1, .int v84_m_s.2.2.2.2.2.2.2.2.1, .long v84_m_s.2.2.2.2.2.2.2.2.2, g8, g9, g10, g11, g12, g13, g14, g15, g16, g17, g18, g19, g20, g21, g22])), (a1, .inl (cB23, 900, .inl v84_m_s.1))])) (wr := []) hP hD hK hS hA [0, 1] [] rfl rfl (by decide) (by decide) (by decide) (fun hPc hDc => (va_runV (As := [.int v84_m_s.2.2.2.1]) (rest := []) ⟨hx, hb, hml, hown, hts⟩ (kfX12_byteAt l dC dI a0 v84_m_s.2.2.2.1 a1 v84_m_s (g3) (g4) (g5) (g6) (g7) (g8) (g9) (g10) (g11) (g12) (g13) (g14) (g15) (g16) (g17) (g18) (g19) (g20) (g21) (g22) cB23 H.size o89 eo89) (cwV 1 hts gfX12_goesOn_0 rfl rfl rfl (by decide +kernel) ⟨(Nat.le_of_ble_eq_true rfl), (Nat.le_of_ble_eq_true rfl)⟩) (PV hPc (hK.sub (tys' := ((cB23, .byte) :: [])) [0] rfl) hDc hN 0 rfl rfl) rfl rfl hl.1 rfl (lv_room (Nat.le_of_ble_eq_true rfl)) (zat zrX12_goesOn_0_ok 48 rfl) ⟨(Nat.le_of_ble_eq_true rfl), (Nat.le_of_ble_eq_true rfl)⟩)) (fun r89 _ H locs hw hP hD _ hS => ?_)
                obtain rfl := hw.symm
                obtain ⟨hP, hD⟩ := pd_mk ([(a0, .inr (9, [g3, g4, g5, g6, g7, .ref a1, .int v84_m_s.2.1, .int v84_m_s.2.2.1, .int v84_m_s.2.2.2.1, .int v84_m_s.2.2.2.2.1, .int v84_m_s.2.2.2.2.2.1, .int v84_m_s.2.2.2.2.2.2.1, .int v84_m_s.2.2.2.2.2.2.2.1, .int v84_m_s.2.2.2.2.2.2.2.2.1, .long v84_m_s.2.2.2.2.2.2.2.2.2, g8, g9, g10, g11, g12, g13, g14, g15, g16, g17, g18, g19, g20, g21, g22])), (a1, .inl (cB23, 900, .inl v84_m_s.1))]) hP hD
                obtain ⟨o92, eo92⟩ : ∃ o, o = f_X12_isLetter o89 := ⟨_, rfl⟩
                have h := nm_of h o92 eo92
                refine ck_i (wc := []) (wr := ([(a0, .inr (9, [g3, g4, g5, g6, g7, .ref a1, .int v84_m_s.2.1, .int v84_m_s.2.2.1, .int v84_m_s.2.2.2.1, .int v84_m_s.2.2.2.2.1, .int v84_m_s.2.2.2.2.2.1, .int v84_m_s.2.2.2.2.2.2.1, .int v84_m_s.2.2.2.2.2.2.2.1, .int v84_m_s.2.2.2.2.2.2.2.2.1, .long v84_m_s.2.2.2.2.2.2.2.2.2, g8, g9, g10, g11, g12, g13, g14, g15, g16, g17, g18, g19, g20, g21, g22])), (a1, .inl (cB23, 900, .inl v84_m_s.1))])) hP hD hK hS hA [] [0, 1] rfl rfl (by decide) (by decide) (by decide) (fun hPc hDc => (va_runS (As := [.int o89]) (rest := []) ⟨hx, hb, hml, hown, hts⟩ (kfX12_isLetter l dC dI o89 H.size o92 eo92.symm) (va_cwS 1 hts gfX12_goesOn_1 rfl rfl rfl (by decide +kernel) ⟨(Nat.le_of_ble_eq_true rfl), (Nat.le_of_ble_eq_true rfl)⟩) (PS hPc (hK.sub (tys' := ([])) [] rfl) hDc hN) rfl rfl hl.1 rfl (lv_room (Nat.le_of_ble_eq_true rfl)) (zat zrX12_goesOn_0_ok 49 rfl) ⟨(Nat.le_of_ble_eq_true rfl), (Nat.le_of_ble_eq_true rfl)⟩)) (fun r92 _ H locs hw hP hD _ hS => ?_)
                obtain ⟨hw, br92⟩ := hw
                obtain rfl := hw.symm
                obtain ⟨hP, hD⟩ := pd_mk ([(a0, .inr (9, [g3, g4, g5, g6, g7, .ref a1, .int v84_m_s.2.1, .int v84_m_s.2.2.1, .int v84_m_s.2.2.2.1, .int v84_m_s.2.2.2.2.1, .int v84_m_s.2.2.2.2.2.1, .int v84_m_s.2.2.2.2.2.2.1, .int v84_m_s.2.2.2.2.2.2.2.1, .int v84_m_s.2.2.2.2.2.2.2.2.1, .long v84_m_s.2.2.2.2.2.2.2.2.2, g8, g9, g10, g11, g12, g13, g14, g15, g16, g17, g18, g19, g20, g21, g22])), (a1, .inl (cB23, 900, .inl v84_m_s.1))]) hP hD
                refine lv_if_eq (tgt := 147) hx hb (zat zrX12_goesOn_0_ok 50 rfl) (by decide) (fun c95 => ?_) (fun c95 => ?_)
                · have h := (if_pos c95).symm.trans h
                  refine lv_iload_n hx hb (zat zrX12_goesOn_1_ok 14 rfl) rfl (lv_at hl 0 rfl) ?_
                  refine lv_bipush (v := 8) hx hb (zat zrX12_goesOn_1_ok 15 rfl) (by decide) ?_
                  refine lv_icmp_gt (tgt := 265) hx hb (zat zrX12_goesOn_1_ok 16 rfl) (by decide) (fun c150 => ?_) (fun c150 => ?_)
                  · have h := (if_pos c150).symm.trans h
                    obtain rfl := Option.some.inj h
                    obtain ⟨hP9, hD9⟩ := pd_sub ([(a0, .inr (9, [g3, g4, g5, g6, g7, .ref a1, .int v84_m_s.2.1, .int v84_m_s.2.2.1, .int v84_m_s.2.2.2.1, .int v84_m_s.2.2.2.2.1, .int v84_m_s.2.2.2.2.2.1, .int v84_m_s.2.2.2.2.2.2.1, .int v84_m_s.2.2.2.2.2.2.2.1, .int v84_m_s.2.2.2.2.2.2.2.2.1, .long v84_m_s.2.2.2.2.2.2.2.2.2, g8, g9, g10, g11, g12, g13, g14, g15, g16, g17, g18, g19, g20, g21, g22])), (a1, .inl (cB23, 900, .inl v84_m_s.1))]) [0, 1] hP hD (by decide) rfl
                    have hK9 := hK.sub (tys' := []) [] rfl
                    rw [hQQ]
                    exact W.vret hx hb hr (fun t ht hW => ⟨⟨(), rfl, trivial, by rw [ht]; exact hP9, va_K.moved hW.alike hK9, hD9⟩, hS.F ht⟩) hS.2.2 (zat zrX12_goesOn_2_ok 12 rfl)
                  · have h := (if_neg c150).symm.trans h
                    refine lv_aload_n hx hb (zat zrX12_goesOn_1_ok 17 rfl) rfl (lv_at hl 1 rfl) ?_
                    refine lv_iconst (v := 2) hx hb (zat zrX12_goesOn_1_ok 18 rfl) (by decide) ?_
                    refine va_put (D := (dC, dI)) (ci := 9) (v := .int 2) (ty := .int) (C := RX12) (T := TX12) (N := 30) hx hb hts ifX12_goesOn_X12 tyX12 tyX12_ok nmX12 hown hK hP hD hS 0 rfl rfl 9 (by decide) (hts (.fieldLink RX12 68 "HookPierModel" "sort" "I") (List.mem_of_getElem? (i := 1) rfl)) (fun _ h9 => h9) rfl (by decide +kernel) rfl rfl (Nat.le_of_ble_eq_true rfl) (zat zrX12_goesOn_1_ok 19 rfl) (fun H locs hP hD hS => ?_)
                    obtain ⟨hP, hD⟩ := pd_mk ([(a0, .inr (9, [g3, g4, g5, g6, g7, .ref a1, .int v84_m_s.2.1, .int v84_m_s.2.2.1, .int v84_m_s.2.2.2.1, .int 2, .int v84_m_s.2.2.2.2.2.1, .int v84_m_s.2.2.2.2.2.2.1, .int v84_m_s.2.2.2.2.2.2.2.1, .int v84_m_s.2.2.2.2.2.2.2.2.1, .long v84_m_s.2.2.2.2.2.2.2.2.2, g8, g9, g10, g11, g12, g13, g14, g15, g16, g17, g18, g19, g20, g21, g22])), (a1, .inl (cB23, 900, .inl v84_m_s.1))]) hP hD
                    refine lv_goto (tgt := 265) hx hb (zat zrX12_goesOn_1_ok 20 rfl) (by decide) ?_
                    obtain rfl := Option.some.inj h
                    obtain ⟨hP9, hD9⟩ := pd_sub ([(a0, .inr (9, [g3, g4, g5, g6, g7, .ref a1, .int v84_m_s.2.1, .int v84_m_s.2.2.1, .int v84_m_s.2.2.2.1, .int 2, .int v84_m_s.2.2.2.2.2.1, .int v84_m_s.2.2.2.2.2.2.1, .int v84_m_s.2.2.2.2.2.2.2.1, .int v84_m_s.2.2.2.2.2.2.2.2.1, .long v84_m_s.2.2.2.2.2.2.2.2.2, g8, g9, g10, g11, g12, g13, g14, g15, g16, g17, g18, g19, g20, g21, g22])), (a1, .inl (cB23, 900, .inl v84_m_s.1))]) [0, 1] hP hD (by decide) rfl
                    have hK9 := hK.sub (tys' := []) [] rfl
                    rw [hQQ]
                    exact W.vret hx hb hr (fun t ht hW => ⟨⟨(), rfl, trivial, by rw [ht]; exact hP9, va_K.moved hW.alike hK9, hD9⟩, hS.F ht⟩) hS.2.2 (zat zrX12_goesOn_2_ok 12 rfl)
                · have h := (if_neg c95).symm.trans h
                  refine lv_iload_n hx hb (zat zrX12_goesOn_0_ok 51 rfl) rfl (lv_at hl 0 rfl) ?_
                  refine lv_bipush (v := 8) hx hb (zat zrX12_goesOn_0_ok 52 rfl) (by decide) ?_
                  have J131 : ∀ (v131_m_s : TX12_s) (H : Heap) (locs : List Loc) (ls : Array Slot), f_X12_goesOn_J131 (f_X12_goesOn_L84 n84) v84_l2 v131_m_s = some out → va_P (dC, dI) vwCl ([(a0, .inr (9, [g3, g4, g5, g6, g7, .ref a1, .int v131_m_s.2.1, .int v131_m_s.2.2.1, .int v131_m_s.2.2.2.1, .int v131_m_s.2.2.2.2.1, .int v131_m_s.2.2.2.2.2.1, .int v131_m_s.2.2.2.2.2.2.1, .int v131_m_s.2.2.2.2.2.2.2.1, .int v131_m_s.2.2.2.2.2.2.2.2.1, .long v131_m_s.2.2.2.2.2.2.2.2.2, g8, g9, g10, g11, g12, g13, g14, g15, g16, g17, g18, g19, g20, g21, g22])), (a1, .inl (cB23, 900, .inl v131_m_s.1))]) H → va_D A ([(a0, .inr (9, [g3, g4, g5, g6, g7, .ref a1, .int v131_m_s.2.1, .int v131_m_s.2.2.1, .int v131_m_s.2.2.2.1, .int v131_m_s.2.2.2.2.1, .int v131_m_s.2.2.2.2.2.1, .int v131_m_s.2.2.2.2.2.2.1, .int v131_m_s.2.2.2.2.2.2.2.1, .int v131_m_s.2.2.2.2.2.2.2.2.1, .long v131_m_s.2.2.2.2.2.2.2.2.2, g8, g9, g10, g11, g12, g13, g14, g15, g16, g17, g18, g19, g20, g21, g22])), (a1, .inl (cB23, 900, .inl v131_m_s.1))]) → va_S A s.heap H locs → lv_has ls 3 [(2, .int v84_l2), (0, .ref a0)] → W p l e (headSpec vfX12_goesOn { frames := 1, cells := 0, slots := 0, locals := 21 }).room s m ([.ref a0]).toArray below meth c H locs 0 0 QQ (F0 m 131 ls []) := by
                    intro v131_m_s H locs ls h  hP hD hS hl
                    rw [f_X12_goesOn_J131] at h
                    refine lv_iinc (v := (v84_l2 + (1 : Int32))) (lv' := [(2, .int (v84_l2 + (1 : Int32))), (0, .ref a0)]) hx hb (zat zrX12_goesOn_1_ok 6 rfl) hl (k := 0) rfl rfl (by decide) rfl (fun ls hl => ?_)
                    refine lv_aload_n hx hb (zat zrX12_goesOn_1_ok 7 rfl) rfl (lv_at hl 1 rfl) ?_
                    refine lv_dup hx hb (zat zrX12_goesOn_1_ok 8 rfl) rfl ?_
                    refine va_get (D := (dC, dI)) (ci := 9) (v := .int v131_m_s.2.2.2.1) (C := RX12) (T := TX12) (N := 30) hx hb hts ifX12_goesOn_X12 hown hK hP 0 rfl rfl 8 (by decide) (hts (.fieldLink RX12 71 "HookPierModel" "spot" "I") (List.mem_of_getElem? (i := 2) rfl)) (fun _ h9 => h9) rfl (zat zrX12_goesOn_1_ok 9 rfl) ?_
                    refine lv_iconst (v := 1) hx hb (zat zrX12_goesOn_1_ok 10 rfl) (by decide) ?_
                    refine lv_iadd hx hb (zat zrX12_goesOn_1_ok 11 rfl) ?_
                    refine va_put (D := (dC, dI)) (ci := 9) (v := .int (v131_m_s.2.2.2.1 + (1 : Int32))) (ty := .int) (C := RX12) (T := TX12) (N := 30) hx hb hts ifX12_goesOn_X12 tyX12 tyX12_ok nmX12 hown hK hP hD hS 0 rfl rfl 8 (by decide) (hts (.fieldLink RX12 71 "HookPierModel" "spot" "I") (List.mem_of_getElem? (i := 2) rfl)) (fun _ h9 => h9) rfl (by decide +kernel) rfl rfl (Nat.le_of_ble_eq_true rfl) (zat zrX12_goesOn_1_ok 12 rfl) (fun H locs hP hD hS => ?_)
                    obtain ⟨hP, hD⟩ := pd_mk ([(a0, .inr (9, [g3, g4, g5, g6, g7, .ref a1, .int v131_m_s.2.1, .int v131_m_s.2.2.1, .int (v131_m_s.2.2.2.1 + (1 : Int32)), .int v131_m_s.2.2.2.2.1, .int v131_m_s.2.2.2.2.2.1, .int v131_m_s.2.2.2.2.2.2.1, .int v131_m_s.2.2.2.2.2.2.2.1, .int v131_m_s.2.2.2.2.2.2.2.2.1, .long v131_m_s.2.2.2.2.2.2.2.2.2, g8, g9, g10, g11, g12, g13, g14, g15, g16, g17, g18, g19, g20, g21, g22])), (a1, .inl (cB23, 900, .inl v131_m_s.1))]) hP hD
                    refine lv_goto (tgt := 84) hx hb (zat zrX12_goesOn_1_ok 13 rfl) (by decide) ?_
                    exact ih84 (v84_l2 + (1 : Int32)) (v131_m_s.1, v131_m_s.2.1, v131_m_s.2.2.1, (v131_m_s.2.2.2.1 + (1 : Int32)), v131_m_s.2.2.2.2) H _ ls h  hP hD hS (lv_sub hl [0, 1] rfl)
                  refine lv_icmp_ge (tgt := 131) hx hb (zat zrX12_goesOn_0_ok 53 rfl) (by decide) (fun c101 => ?_) (fun c101 => ?_)
                  · have h := (if_pos c101).symm.trans h
                    exact J131 v84_m_s H _ ls h  hP hD hS (lv_sub hl [0, 1] rfl)
                  · have h := (if_neg c101).symm.trans h
                    refine lv_aload_n hx hb (zat zrX12_goesOn_0_ok 54 rfl) rfl (lv_at hl 1 rfl) ?_
                    refine lv_ldc2 hx hb hown (hts (.constantLong RX12 62 (32)) (List.mem_of_getElem? (i := 14) rfl)) (zat zrX12_goesOn_0_ok 55 rfl) ?_
                    refine lv_aload_n hx hb (zat zrX12_goesOn_0_ok 56 rfl) rfl (lv_at hl 1 rfl) ?_
                    refine va_get (D := (dC, dI)) (ci := 9) (v := .long v84_m_s.2.2.2.2.2.2.2.2.2) (C := RX12) (T := TX12) (N := 30) hx hb hts ifX12_goesOn_X12 hown hK hP 0 rfl rfl 14 (by decide) (hts (.fieldLink RX12 84 "HookPierModel" "word" "J") (List.mem_of_getElem? (i := 13) rfl)) (fun _ h9 => h9) rfl (zat zrX12_goesOn_0_ok 57 rfl) ?_
                    refine lv_lmul hx hb (zat zrX12_goesOn_0_ok 58 rfl) ?_
                    refine lv_aload_n hx hb (zat zrX12_goesOn_0_ok 59 rfl) rfl (lv_at hl 1 rfl) ?_
                    refine lv_aload_n hx hb (zat zrX12_goesOn_0_ok 60 rfl) rfl (lv_at hl 1 rfl) ?_
                    refine va_get (D := (dC, dI)) (ci := 9) (v := .int v84_m_s.2.2.2.1) (C := RX12) (T := TX12) (N := 30) hx hb hts ifX12_goesOn_X12 hown hK hP 0 rfl rfl 8 (by decide) (hts (.fieldLink RX12 71 "HookPierModel" "spot" "I") (List.mem_of_getElem? (i := 2) rfl)) (fun _ h9 => h9) rfl (zat zrX12_goesOn_0_ok 61 rfl) ?_
                    obtain ⟨o118, eo118, h⟩ := bd_of h
                    refine ck_i (wc := ([(a0, .inr (9, [g3, g4, g5, g6, g7, .ref a1, .int v84_m_s.2.1, .int v84_m_s.2.2.1, .int v84_m_s.2.2.2.1, .int v84_m_s.2.2.2.2.1, .int v84_m_s.2.2.2.2.2.1, .int v84_m_s.2.2.2.2.2.2.1, .int v84_m_s.2.2.2.2.2.2.2.1, .int v84_m_s.2.2.2.2.2.2.2.2.1, .long v84_m_s.2.2.2.2.2.2.2.2.2, g8, g9, g10, g11, g12, g13, g14, g15, g16, g17, g18, g19, g20, g21, g22])), (a1, .inl (cB23, 900, .inl v84_m_s.1))])) (wr := []) hP hD hK hS hA [0, 1] [] rfl rfl (by decide) (by decide) (by decide) (fun hPc hDc => (va_runV (As := [.int v84_m_s.2.2.2.1]) (rest := [.long ((32 : Int64) * v84_m_s.2.2.2.2.2.2.2.2.2), .ref a0]) ⟨hx, hb, hml, hown, hts⟩ (kfX12_byteAt l dC dI a0 v84_m_s.2.2.2.1 a1 v84_m_s (g3) (g4) (g5) (g6) (g7) (g8) (g9) (g10) (g11) (g12) (g13) (g14) (g15) (g16) (g17) (g18) (g19) (g20) (g21) (g22) cB23 H.size o118 eo118) (cwV 1 hts gfX12_goesOn_0 rfl rfl rfl (by decide +kernel) ⟨(Nat.le_of_ble_eq_true rfl), (Nat.le_of_ble_eq_true rfl)⟩) (PV hPc (hK.sub (tys' := ((cB23, .byte) :: [])) [0] rfl) hDc hN 0 rfl rfl) rfl rfl hl.1 rfl (lv_room (Nat.le_of_ble_eq_true rfl)) (zat zrX12_goesOn_0_ok 62 rfl) ⟨(Nat.le_of_ble_eq_true rfl), (Nat.le_of_ble_eq_true rfl)⟩)) (fun r118 _ H locs hw hP hD _ hS => ?_)
                    obtain rfl := hw.symm
                    obtain ⟨hP, hD⟩ := pd_mk ([(a0, .inr (9, [g3, g4, g5, g6, g7, .ref a1, .int v84_m_s.2.1, .int v84_m_s.2.2.1, .int v84_m_s.2.2.2.1, .int v84_m_s.2.2.2.2.1, .int v84_m_s.2.2.2.2.2.1, .int v84_m_s.2.2.2.2.2.2.1, .int v84_m_s.2.2.2.2.2.2.2.1, .int v84_m_s.2.2.2.2.2.2.2.2.1, .long v84_m_s.2.2.2.2.2.2.2.2.2, g8, g9, g10, g11, g12, g13, g14, g15, g16, g17, g18, g19, g20, g21, g22])), (a1, .inl (cB23, 900, .inl v84_m_s.1))]) hP hD
                    refine lv_bipush (v := 97) hx hb (zat zrX12_goesOn_0_ok 63 rfl) (by decide) ?_
                    refine lv_isub hx hb (zat zrX12_goesOn_1_ok 0 rfl) ?_
                    refine lv_iconst (v := 1) hx hb (zat zrX12_goesOn_1_ok 1 rfl) (by decide) ?_
                    refine lv_iadd hx hb (zat zrX12_goesOn_1_ok 2 rfl) ?_
                    refine lv_i2l hx hb (zat zrX12_goesOn_1_ok 3 rfl) rfl ?_
                    refine lv_ladd hx hb (zat zrX12_goesOn_1_ok 4 rfl) ?_
                    refine lv_topl (fun z127 ez127 => ?_)
                    have h := nm_of h z127 ez127
                    refine va_put (D := (dC, dI)) (ci := 9) (v := .long z127) (ty := .long) (C := RX12) (T := TX12) (N := 30) hx hb hts ifX12_goesOn_X12 tyX12 tyX12_ok nmX12 hown hK hP hD hS 0 rfl rfl 14 (by decide) (hts (.fieldLink RX12 84 "HookPierModel" "word" "J") (List.mem_of_getElem? (i := 13) rfl)) (fun _ h9 => h9) rfl (by decide +kernel) rfl rfl (Nat.le_of_ble_eq_true rfl) (zat zrX12_goesOn_1_ok 5 rfl) (fun H locs hP hD hS => ?_)
                    obtain ⟨hP, hD⟩ := pd_mk ([(a0, .inr (9, [g3, g4, g5, g6, g7, .ref a1, .int v84_m_s.2.1, .int v84_m_s.2.2.1, .int v84_m_s.2.2.2.1, .int v84_m_s.2.2.2.2.1, .int v84_m_s.2.2.2.2.2.1, .int v84_m_s.2.2.2.2.2.2.1, .int v84_m_s.2.2.2.2.2.2.2.1, .int v84_m_s.2.2.2.2.2.2.2.2.1, .long z127, g8, g9, g10, g11, g12, g13, g14, g15, g16, g17, g18, g19, g20, g21, g22])), (a1, .inl (cB23, 900, .inl v84_m_s.1))]) hP hD
                    exact J131 (v84_m_s.1, v84_m_s.2.1, v84_m_s.2.2.1, v84_m_s.2.2.2.1, v84_m_s.2.2.2.2.1, v84_m_s.2.2.2.2.2.1, v84_m_s.2.2.2.2.2.2.1, v84_m_s.2.2.2.2.2.2.2.1, v84_m_s.2.2.2.2.2.2.2.2.1, z127) H _ ls h  hP hD hS (lv_sub hl [0, 1] rfl)
            exact L84 FU (0 : Int32) (v9_m_s.1, v9_m_s.2.1, v9_m_s.2.2.1, v9_m_s.2.2.2.1, (0 : Int32), v9_m_s.2.2.2.1, v9_m_s.2.2.2.2.2.2.1, v9_m_s.2.2.2.2.2.2.2.1, v9_m_s.2.2.2.2.2.2.2.2.1, (0 : Int64)) H _ ls h  hP hD hS (lv_sub hl [0, 2] rfl)
        · have h := (if_pos c61).symm.trans h
          refine lv_aload_n hx hb (zat zrX12_goesOn_0_ok 35 rfl) rfl (lv_at hl 2 rfl) ?_
          refine lv_iconst (v := 1) hx hb (zat zrX12_goesOn_0_ok 36 rfl) (by decide) ?_
          refine va_put (D := (dC, dI)) (ci := 9) (v := .int 1) (ty := .int) (C := RX12) (T := TX12) (N := 30) hx hb hts ifX12_goesOn_X12 tyX12 tyX12_ok nmX12 hown hK hP hD hS 0 rfl rfl 9 (by decide) (hts (.fieldLink RX12 68 "HookPierModel" "sort" "I") (List.mem_of_getElem? (i := 1) rfl)) (fun _ h9 => h9) rfl (by decide +kernel) rfl rfl (Nat.le_of_ble_eq_true rfl) (zat zrX12_goesOn_0_ok 37 rfl) (fun H locs hP hD hS => ?_)
          obtain ⟨hP, hD⟩ := pd_mk ([(a0, .inr (9, [g3, g4, g5, g6, g7, .ref a1, .int v9_m_s.2.1, .int v9_m_s.2.2.1, .int v9_m_s.2.2.2.1, .int 1, .int v9_m_s.2.2.2.1, .int v9_m_s.2.2.2.2.2.2.1, .int v9_m_s.2.2.2.2.2.2.2.1, .int v9_m_s.2.2.2.2.2.2.2.2.1, .long v9_m_s.2.2.2.2.2.2.2.2.2, g8, g9, g10, g11, g12, g13, g14, g15, g16, g17, g18, g19, g20, g21, g22])), (a1, .inl (cB23, 900, .inl v9_m_s.1))]) hP hD
          refine lv_goto (tgt := 265) hx hb (zat zrX12_goesOn_0_ok 38 rfl) (by decide) ?_
          obtain rfl := Option.some.inj h
          obtain ⟨hP9, hD9⟩ := pd_sub ([(a0, .inr (9, [g3, g4, g5, g6, g7, .ref a1, .int v9_m_s.2.1, .int v9_m_s.2.2.1, .int v9_m_s.2.2.2.1, .int 1, .int v9_m_s.2.2.2.1, .int v9_m_s.2.2.2.2.2.2.1, .int v9_m_s.2.2.2.2.2.2.2.1, .int v9_m_s.2.2.2.2.2.2.2.2.1, .long v9_m_s.2.2.2.2.2.2.2.2.2, g8, g9, g10, g11, g12, g13, g14, g15, g16, g17, g18, g19, g20, g21, g22])), (a1, .inl (cB23, 900, .inl v9_m_s.1))]) [0, 1] hP hD (by decide) rfl
          have hK9 := hK.sub (tys' := []) [] rfl
          rw [hQQ]
          exact W.vret hx hb hr (fun t ht hW => ⟨⟨(), rfl, trivial, by rw [ht]; exact hP9, va_K.moved hW.alike hK9, hD9⟩, hS.F ht⟩) hS.2.2 (zat zrX12_goesOn_2_ok 12 rfl)
      · have h := (if_pos c19).symm.trans h
        refine lv_aload_n hx hb (zat zrX12_goesOn_0_ok 11 rfl) rfl (lv_at hl 0 rfl) ?_
        refine lv_dup hx hb (zat zrX12_goesOn_0_ok 12 rfl) rfl ?_
        refine va_get (D := (dC, dI)) (ci := 9) (v := .int v9_m_s.2.2.2.1) (C := RX12) (T := TX12) (N := 30) hx hb hts ifX12_goesOn_X12 hown hK hP 0 rfl rfl 8 (by decide) (hts (.fieldLink RX12 71 "HookPierModel" "spot" "I") (List.mem_of_getElem? (i := 2) rfl)) (fun _ h9 => h9) rfl (zat zrX12_goesOn_0_ok 13 rfl) ?_
        refine lv_iconst (v := 1) hx hb (zat zrX12_goesOn_0_ok 14 rfl) (by decide) ?_
        refine lv_iadd hx hb (zat zrX12_goesOn_0_ok 15 rfl) ?_
        refine va_put (D := (dC, dI)) (ci := 9) (v := .int (v9_m_s.2.2.2.1 + (1 : Int32))) (ty := .int) (C := RX12) (T := TX12) (N := 30) hx hb hts ifX12_goesOn_X12 tyX12 tyX12_ok nmX12 hown hK hP hD hS 0 rfl rfl 8 (by decide) (hts (.fieldLink RX12 71 "HookPierModel" "spot" "I") (List.mem_of_getElem? (i := 2) rfl)) (fun _ h9 => h9) rfl (by decide +kernel) rfl rfl (Nat.le_of_ble_eq_true rfl) (zat zrX12_goesOn_0_ok 16 rfl) (fun H locs hP hD hS => ?_)
        obtain ⟨hP, hD⟩ := pd_mk ([(a0, .inr (9, [g3, g4, g5, g6, g7, .ref a1, .int v9_m_s.2.1, .int v9_m_s.2.2.1, .int (v9_m_s.2.2.2.1 + (1 : Int32)), .int v9_m_s.2.2.2.2.1, .int v9_m_s.2.2.2.2.2.1, .int v9_m_s.2.2.2.2.2.2.1, .int v9_m_s.2.2.2.2.2.2.2.1, .int v9_m_s.2.2.2.2.2.2.2.2.1, .long v9_m_s.2.2.2.2.2.2.2.2.2, g8, g9, g10, g11, g12, g13, g14, g15, g16, g17, g18, g19, g20, g21, g22])), (a1, .inl (cB23, 900, .inl v9_m_s.1))]) hP hD
        refine lv_goto (tgt := 9) hx hb (zat zrX12_goesOn_0_ok 17 rfl) (by decide) ?_
        exact ih9 (v9_m_s.1, v9_m_s.2.1, v9_m_s.2.2.1, (v9_m_s.2.2.2.1 + (1 : Int32)), v9_m_s.2.2.2.2) H _ ls h  hP hD hS (lv_sub hl [0] rfl)
  refine lv_icmp_ne (tgt := 9) hx hb (zat zrX12_goesOn_0_ok 3 rfl) (by decide) (fun c5 => ?_) (fun c5 => ?_)
  · have h := (if_neg c5).symm.trans h
    exact L9 FU m_s s.heap _ ls h  hP hD hS (lv_sub hl [0] rfl)
  · have h := (if_pos c5).symm.trans h
    obtain rfl := Option.some.inj h
    obtain ⟨hP9, hD9⟩ := pd_sub ([(a0, .inr (9, [g3, g4, g5, g6, g7, .ref a1, .int m_s.2.1, .int m_s.2.2.1, .int m_s.2.2.2.1, .int m_s.2.2.2.2.1, .int m_s.2.2.2.2.2.1, .int m_s.2.2.2.2.2.2.1, .int m_s.2.2.2.2.2.2.2.1, .int m_s.2.2.2.2.2.2.2.2.1, .long m_s.2.2.2.2.2.2.2.2.2, g8, g9, g10, g11, g12, g13, g14, g15, g16, g17, g18, g19, g20, g21, g22])), (a1, .inl (cB23, 900, .inl m_s.1))]) [0, 1] hP hD (by decide) rfl
    have hK9 := hK.sub (tys' := []) [] rfl
    rw [hQQ]
    exact W.vret hx hb hr (fun t ht hW => ⟨⟨(), rfl, trivial, by rw [ht]; exact hP9, va_K.moved hW.alike hK9, hD9⟩, hS.F ht⟩) hS.2.2 (zat zrX12_goesOn_0_ok 4 rfl)
noncomputable def zrX12_flaw_0 : List ZR := zc 0 true (.aload_n 0) 1 (zc 1 true (.getfield 68) 3 (zc 4 true (.iconst 5) 1 (zc 5 true (.if_icmp .ne 4) 3 (zc 8 true (.return_) 1 (zc 9 true (.aload_n 0) 1 (zc 10 true (.iload_n 1) 1 (zc 11 true (.putfield 94) 3 (zc 14 true (.aload_n 0) 1 (zc 15 true (.aload_n 0) 1 (zc 16 true (.getfield 77) 3 (zc 19 true (.putfield 97) 3 (zc 22 true (.aload_n 0) 1 (zc 23 true (.iconst 5) 1 (zc 24 true (.putfield 68) 3 (zc 27 true (.return_) 1 ([]))))))))))))))))
theorem zrX12_flaw_0_ok : zck 0 ((zby cX12_flaw).drop 0) zrX12_flaw_0 = true := by decide +kernel
def vfX12_flaw : List Cond := List.cons (.code yX12_flaw cX12_flaw 2 none) (apW [.fieldLink RX12 68 "HookPierModel" "sort" "I", .fieldLink RX12 94 "HookPierModel" "fault" "I", .fieldLink RX12 77 "HookPierModel" "place" "I", .fieldLink RX12 97 "HookPierModel" "wrongAt" "I"] (wsX120))
theorem ifX12_flaw_X12 : ∀ w ∈ wsX120, w ∈ vfX12_flaw := fun _ h => (List.mem_cons_of_mem _ (List.mem_append_right _ h))
theorem qfX12_flaw : Good vfX12_flaw := gd_cons (by decide +kernel) (gd_app (gd_dec (by decide +kernel) : Good [.fieldLink RX12 68 "HookPierModel" "sort" "I", .fieldLink RX12 94 "HookPierModel" "fault" "I", .fieldLink RX12 77 "HookPierModel" "place" "I", .fieldLink RX12 97 "HookPierModel" "wrongAt" "I"]) qsX12)
set_option maxHeartbeats 2000000 in
set_option maxRecDepth 100000 in
theorem kfX12_flaw (l : Launch) (dC : Nat → ClassId) (dI : Nat → Nat → Nat) (a0 : Nat) (k1 : Int32) (a2 : Nat) (m_s : TX12_s) (g4 : Value) (g5 : Value) (g6 : Value) (g7 : Value) (g8 : Value) (g9 : Value) (g10 : Value) (g11 : Value) (g12 : Value) (g13 : Value) (g14 : Value) (g15 : Value) (g16 : Value) (g17 : Value) (g18 : Value) (g19 : Value) (g20 : Value) (g21 : Value) (g22 : Value) (g23 : Value) (cB24 : ClassId) (sz : Nat) (out : TX12_s) (h : f_X12_flaw k1 m_s = out) : KCv l yX12_flaw vfX12_flaw ({ frames := 0, cells := 0, slots := 0, locals := 0 }) (dC, dI) [.ref a0, .int k1] sz ([(a0, .inr (9, [g4, g5, g6, g7, g8, .ref a2, .int m_s.2.1, .int m_s.2.2.1, .int m_s.2.2.2.1, .int m_s.2.2.2.2.1, .int m_s.2.2.2.2.2.1, .int m_s.2.2.2.2.2.2.1, .int m_s.2.2.2.2.2.2.2.1, .int m_s.2.2.2.2.2.2.2.2.1, .long m_s.2.2.2.2.2.2.2.2.2, g9, g10, g11, g12, g13, g14, g15, g16, g17, g18, g19, g20, g21, g22, g23])), (a2, .inl (cB24, 900, .inl m_s.1))]) ((cB24, .byte) :: []) (fun _ => True) ([(a0, .inr (9, [g4, g5, g6, g7, g8, .ref a2, .int out.2.1, .int out.2.2.1, .int out.2.2.2.1, .int out.2.2.2.2.1, .int out.2.2.2.2.2.1, .int out.2.2.2.2.2.2.1, .int out.2.2.2.2.2.2.2.1, .int out.2.2.2.2.2.2.2.2.1, .long out.2.2.2.2.2.2.2.2.2, g9, g10, g11, g12, g13, g14, g15, g16, g17, g18, g19, g20, g21, g22, g23])), (a2, .inl (cB24, 900, .inl out.1))]) 0 0 := by
  refine Met.ofW (cc := cX12_flaw) (maxL := 2) (ret := none) (by decide) rfl ?_
  intro p e s m args below meth c s₁ B0 hml hv
  obtain ⟨rfl, hsz, hP, hK, hD0, hN⟩ := hv
  have hx := B0.exec
  have hb := B0.bytes
  have hr := B0.returns
  have hts := atoms_spec (ws := vfX12_flaw) B0.pre
  have hown : s.vm.findClass RX12 = some m.cls := findClass_of_methodNamed B0.named
  have hlocks := B0.notSynchronized
  subst hsz
  have hD := hD0.self (sz := s.heap.size)
  generalize hAe : va_A ([(a0, .inr (9, [g4, g5, g6, g7, g8, .ref a2, .int m_s.2.1, .int m_s.2.2.1, .int m_s.2.2.2.1, .int m_s.2.2.2.2.1, .int m_s.2.2.2.2.2.1, .int m_s.2.2.2.2.2.2.1, .int m_s.2.2.2.2.2.2.2.1, .int m_s.2.2.2.2.2.2.2.2.1, .long m_s.2.2.2.2.2.2.2.2.2, g9, g10, g11, g12, g13, g14, g15, g16, g17, g18, g19, g20, g21, g22, g23])), (a2, .inl (cB24, 900, .inl m_s.1))]) s.heap.size = A at hD ⊢
  have hA : ∀ q : Nat, s.heap.size ≤ q → A q := fun q h => by rw [← hAe]; exact Or.inr h
  have hS : va_S A s.heap s.heap [] := va_S.rf
  have hP : va_P (dC, dI) vwCl ([(a0, .inr (9, [g4, g5, g6, g7, g8, .ref a2, .int m_s.2.1, .int m_s.2.2.1, .int m_s.2.2.2.1, .int m_s.2.2.2.2.1, .int m_s.2.2.2.2.2.1, .int m_s.2.2.2.2.2.2.1, .int m_s.2.2.2.2.2.2.2.1, .int m_s.2.2.2.2.2.2.2.2.1, .long m_s.2.2.2.2.2.2.2.2.2, g9, g10, g11, g12, g13, g14, g15, g16, g17, g18, g19, g20, g21, g22, g23])), (a2, .inl (cB24, 900, .inl m_s.1))]) s.heap := hP
  have hl := lv_entry ([.ref a0, .int k1]) (n := 2) (Nat.le_of_ble_eq_true rfl)
  rw [lg_entry_eq]
  generalize (lg_sl ([.ref a0, .int k1]) ++ List.replicate (2 - (lg_sl ([.ref a0, .int k1])).length) Slot.unset).toArray = ls at hl ⊢
  have hl : lv_has ls 2 [(0, .ref a0), (1, .int k1)] := hl
  refine W_q (fun QQ hQQ => ?_)
  rw [f_X12_flaw] at h
  refine lv_aload_n hx hb (zat zrX12_flaw_0_ok 0 rfl) rfl (lv_at hl 0 rfl) ?_
  refine va_get (D := (dC, dI)) (ci := 9) (v := .int m_s.2.2.2.2.1) (C := RX12) (T := TX12) (N := 30) hx hb hts ifX12_flaw_X12 hown hK hP 0 rfl rfl 9 (by decide) (hts (.fieldLink RX12 68 "HookPierModel" "sort" "I") (List.mem_of_getElem? (i := 1) rfl)) (fun _ h9 => h9) rfl (zat zrX12_flaw_0_ok 1 rfl) ?_
  refine lv_iconst (v := 5) hx hb (zat zrX12_flaw_0_ok 2 rfl) (by decide) ?_
  refine lv_icmp_ne (tgt := 9) hx hb (zat zrX12_flaw_0_ok 3 rfl) (by decide) (fun c5 => ?_) (fun c5 => ?_)
  · have h := (if_neg c5).symm.trans h
    refine lv_aload_n hx hb (zat zrX12_flaw_0_ok 5 rfl) rfl (lv_at hl 0 rfl) ?_
    refine lv_iload_n hx hb (zat zrX12_flaw_0_ok 6 rfl) rfl (lv_at hl 1 rfl) ?_
    refine va_put (D := (dC, dI)) (ci := 9) (v := .int k1) (ty := .int) (C := RX12) (T := TX12) (N := 30) hx hb hts ifX12_flaw_X12 tyX12 tyX12_ok nmX12 hown hK hP hD hS 0 rfl rfl 12 (by decide) (hts (.fieldLink RX12 94 "HookPierModel" "fault" "I") (List.mem_of_getElem? (i := 2) rfl)) (fun _ h9 => h9) rfl (by decide +kernel) rfl rfl (Nat.le_of_ble_eq_true rfl) (zat zrX12_flaw_0_ok 7 rfl) (fun H locs hP hD hS => ?_)
    obtain ⟨hP, hD⟩ := pd_mk ([(a0, .inr (9, [g4, g5, g6, g7, g8, .ref a2, .int m_s.2.1, .int m_s.2.2.1, .int m_s.2.2.2.1, .int m_s.2.2.2.2.1, .int m_s.2.2.2.2.2.1, .int m_s.2.2.2.2.2.2.1, .int k1, .int m_s.2.2.2.2.2.2.2.2.1, .long m_s.2.2.2.2.2.2.2.2.2, g9, g10, g11, g12, g13, g14, g15, g16, g17, g18, g19, g20, g21, g22, g23])), (a2, .inl (cB24, 900, .inl m_s.1))]) hP hD
    refine lv_aload_n hx hb (zat zrX12_flaw_0_ok 8 rfl) rfl (lv_at hl 0 rfl) ?_
    refine lv_aload_n hx hb (zat zrX12_flaw_0_ok 9 rfl) rfl (lv_at hl 0 rfl) ?_
    refine va_get (D := (dC, dI)) (ci := 9) (v := .int m_s.2.2.2.2.2.1) (C := RX12) (T := TX12) (N := 30) hx hb hts ifX12_flaw_X12 hown hK hP 0 rfl rfl 10 (by decide) (hts (.fieldLink RX12 77 "HookPierModel" "place" "I") (List.mem_of_getElem? (i := 3) rfl)) (fun _ h9 => h9) rfl (zat zrX12_flaw_0_ok 10 rfl) ?_
    refine va_put (D := (dC, dI)) (ci := 9) (v := .int m_s.2.2.2.2.2.1) (ty := .int) (C := RX12) (T := TX12) (N := 30) hx hb hts ifX12_flaw_X12 tyX12 tyX12_ok nmX12 hown hK hP hD hS 0 rfl rfl 13 (by decide) (hts (.fieldLink RX12 97 "HookPierModel" "wrongAt" "I") (List.mem_of_getElem? (i := 4) rfl)) (fun _ h9 => h9) rfl (by decide +kernel) rfl rfl (Nat.le_of_ble_eq_true rfl) (zat zrX12_flaw_0_ok 11 rfl) (fun H locs hP hD hS => ?_)
    obtain ⟨hP, hD⟩ := pd_mk ([(a0, .inr (9, [g4, g5, g6, g7, g8, .ref a2, .int m_s.2.1, .int m_s.2.2.1, .int m_s.2.2.2.1, .int m_s.2.2.2.2.1, .int m_s.2.2.2.2.2.1, .int m_s.2.2.2.2.2.2.1, .int k1, .int m_s.2.2.2.2.2.1, .long m_s.2.2.2.2.2.2.2.2.2, g9, g10, g11, g12, g13, g14, g15, g16, g17, g18, g19, g20, g21, g22, g23])), (a2, .inl (cB24, 900, .inl m_s.1))]) hP hD
    refine lv_aload_n hx hb (zat zrX12_flaw_0_ok 12 rfl) rfl (lv_at hl 0 rfl) ?_
    refine lv_iconst (v := 5) hx hb (zat zrX12_flaw_0_ok 13 rfl) (by decide) ?_
    refine va_put (D := (dC, dI)) (ci := 9) (v := .int 5) (ty := .int) (C := RX12) (T := TX12) (N := 30) hx hb hts ifX12_flaw_X12 tyX12 tyX12_ok nmX12 hown hK hP hD hS 0 rfl rfl 9 (by decide) (hts (.fieldLink RX12 68 "HookPierModel" "sort" "I") (List.mem_of_getElem? (i := 1) rfl)) (fun _ h9 => h9) rfl (by decide +kernel) rfl rfl (Nat.le_of_ble_eq_true rfl) (zat zrX12_flaw_0_ok 14 rfl) (fun H locs hP hD hS => ?_)
    obtain ⟨hP, hD⟩ := pd_mk ([(a0, .inr (9, [g4, g5, g6, g7, g8, .ref a2, .int m_s.2.1, .int m_s.2.2.1, .int m_s.2.2.2.1, .int 5, .int m_s.2.2.2.2.2.1, .int m_s.2.2.2.2.2.2.1, .int k1, .int m_s.2.2.2.2.2.1, .long m_s.2.2.2.2.2.2.2.2.2, g9, g10, g11, g12, g13, g14, g15, g16, g17, g18, g19, g20, g21, g22, g23])), (a2, .inl (cB24, 900, .inl m_s.1))]) hP hD
    obtain rfl := h
    obtain ⟨hP9, hD9⟩ := pd_sub ([(a0, .inr (9, [g4, g5, g6, g7, g8, .ref a2, .int m_s.2.1, .int m_s.2.2.1, .int m_s.2.2.2.1, .int 5, .int m_s.2.2.2.2.2.1, .int m_s.2.2.2.2.2.2.1, .int k1, .int m_s.2.2.2.2.2.1, .long m_s.2.2.2.2.2.2.2.2.2, g9, g10, g11, g12, g13, g14, g15, g16, g17, g18, g19, g20, g21, g22, g23])), (a2, .inl (cB24, 900, .inl m_s.1))]) [0, 1] hP hD (by decide) rfl
    have hK9 := hK.sub (tys' := []) [] rfl
    rw [hQQ]
    exact W.vret hx hb hr (fun t ht hW => ⟨⟨(), rfl, trivial, by rw [ht]; exact hP9, va_K.moved hW.alike hK9, hD9⟩, hS.F ht⟩) hS.2.2 (zat zrX12_flaw_0_ok 15 rfl)
  · have h := (if_pos c5).symm.trans h
    obtain rfl := h
    obtain ⟨hP9, hD9⟩ := pd_sub ([(a0, .inr (9, [g4, g5, g6, g7, g8, .ref a2, .int m_s.2.1, .int m_s.2.2.1, .int m_s.2.2.2.1, .int m_s.2.2.2.2.1, .int m_s.2.2.2.2.2.1, .int m_s.2.2.2.2.2.2.1, .int m_s.2.2.2.2.2.2.2.1, .int m_s.2.2.2.2.2.2.2.2.1, .long m_s.2.2.2.2.2.2.2.2.2, g9, g10, g11, g12, g13, g14, g15, g16, g17, g18, g19, g20, g21, g22, g23])), (a2, .inl (cB24, 900, .inl m_s.1))]) [0, 1] hP hD (by decide) rfl
    have hK9 := hK.sub (tys' := []) [] rfl
    rw [hQQ]
    exact W.vret hx hb hr (fun t ht hW => ⟨⟨(), rfl, trivial, by rw [ht]; exact hP9, va_K.moved hW.alike hK9, hD9⟩, hS.F ht⟩) hS.2.2 (zat zrX12_flaw_0_ok 4 rfl)
noncomputable def zrX12_isWord_0 : List ZR := zc 0 true (.aload_n 0) 1 (zc 1 true (.getfield 68) 3 (zc 4 true (.iconst 2) 1 (zc 5 true (.if_icmp .ne 19) 3 (zc 8 true (.aload_n 0) 1 (zc 9 true (.getfield 84) 3 (zc 12 true (.aload_n 1) 1 (zc 13 true (.invokestatic 100) 3 (zc 16 true (.lcmp) 1 (zc 17 true (.ifCond .ne 7) 3 (zc 20 true (.iconst 1) 1 (zc 21 true (.goto 4) 3 (zc 24 true (.iconst 0) 1 (zc 25 true (.ireturn) 1 ([]))))))))))))))
theorem zrX12_isWord_0_ok : zck 0 ((zby cX12_isWord).drop 0) zrX12_isWord_0 = true := by decide +kernel
def vfX12_isWord : List Cond := List.cons (.code yX12_isWord cX12_isWord 2 (some .boolean)) (apW [.fieldLink RX12 68 "HookPierModel" "sort" "I", .fieldLink RX12 84 "HookPierModel" "word" "J", .methodLink RX12 100 yX12_packed, .static yX12_packed, .initialized RX12] (apW wsX120 (vfX12_packed)))
theorem ifX12_isWord_X12 : ∀ w ∈ wsX120, w ∈ vfX12_isWord := fun _ h => (List.mem_cons_of_mem _ (List.mem_append_right _ (List.mem_append_left _ h)))
theorem qfX12_isWord : Good vfX12_isWord := gd_cons (by decide +kernel) (gd_app (gd_dec (by decide +kernel) : Good [.fieldLink RX12 68 "HookPierModel" "sort" "I", .fieldLink RX12 84 "HookPierModel" "word" "J", .methodLink RX12 100 yX12_packed, .static yX12_packed, .initialized RX12]) (gd_app qsX12 qfX12_packed))
theorem gfX12_isWord_0 : GoodIn vfX12_isWord (va_wsS RX12 100 yX12_packed vfX12_packed) := goodIn_app (goodIn_r [.methodLink RX12 100 yX12_packed, .static yX12_packed, .initialized RX12] [3, 4, 5] rfl (by decide +kernel)) (goodIn_m (fun _ h => (List.mem_cons_of_mem _ (List.mem_append_right _ (List.mem_append_right _ h)))) qfX12_packed)
set_option maxHeartbeats 2000000 in
set_option maxRecDepth 100000 in
theorem kfX12_isWord (l : Launch) (dC : Nat → ClassId) (dI : Nat → Nat → Nat) (a0 : Nat) (a1 : Nat) (w1 : List Int32) (a3 : Nat) (m_s : TX12_s) (g5 : Value) (g6 : Value) (g7 : Value) (g8 : Value) (g9 : Value) (g10 : Value) (g11 : Value) (g12 : Value) (g13 : Value) (g14 : Value) (g15 : Value) (g16 : Value) (g17 : Value) (g18 : Value) (g19 : Value) (g20 : Value) (g21 : Value) (g22 : Value) (g23 : Value) (g24 : Value) (cB25 : ClassId) (sz : Nat) (B : Nat) (out : Int32) (h : f_X12_isWord w1 m_s = some out) : Met l yX12_isWord vfX12_isWord ({ frames := 5, cells := 0, slots := 0, locals := 108 }) (PF (dC, dI) B [.ref a0, .ref a1] sz ([(a0, .inr (9, [g5, g6, g7, g8, g9, .ref a3, .int m_s.2.1, .int m_s.2.2.1, .int m_s.2.2.2.1, .int m_s.2.2.2.2.1, .int m_s.2.2.2.2.2.1, .int m_s.2.2.2.2.2.2.1, .int m_s.2.2.2.2.2.2.2.1, .int m_s.2.2.2.2.2.2.2.2.1, .long m_s.2.2.2.2.2.2.2.2.2, g10, g11, g12, g13, g14, g15, g16, g17, g18, g19, g20, g21, g22, g23, g24])), (a3, .inl (cB25, 900, .inl m_s.1))]) ((cB25, .byte) :: []) [(a1, w1)]) (va_Qi (S := Unit) (fun (r : Int32) _ => r = out ∧ (0 ≤ r.toInt ∧ r.toInt ≤ 1)) (fun _ t => BC (dC, dI) (va_A ([(a0, .inr (9, [g5, g6, g7, g8, g9, .ref a3, .int m_s.2.1, .int m_s.2.2.1, .int m_s.2.2.2.1, .int m_s.2.2.2.2.1, .int m_s.2.2.2.2.2.1, .int m_s.2.2.2.2.2.2.1, .int m_s.2.2.2.2.2.2.2.1, .int m_s.2.2.2.2.2.2.2.2.1, .long m_s.2.2.2.2.2.2.2.2.2, g10, g11, g12, g13, g14, g15, g16, g17, g18, g19, g20, g21, g22, g23, g24])), (a3, .inl (cB25, 900, .inl m_s.1))]) sz) ([(a0, .inr (9, [g5, g6, g7, g8, g9, .ref a3, .int m_s.2.1, .int m_s.2.2.1, .int m_s.2.2.2.1, .int m_s.2.2.2.2.1, .int m_s.2.2.2.2.2.1, .int m_s.2.2.2.2.2.2.1, .int m_s.2.2.2.2.2.2.2.1, .int m_s.2.2.2.2.2.2.2.2.1, .long m_s.2.2.2.2.2.2.2.2.2, g10, g11, g12, g13, g14, g15, g16, g17, g18, g19, g20, g21, g22, g23, g24])), (a3, .inl (cB25, 900, .inl m_s.1))]) [] t) (va_A ([(a0, .inr (9, [g5, g6, g7, g8, g9, .ref a3, .int m_s.2.1, .int m_s.2.2.1, .int m_s.2.2.2.1, .int m_s.2.2.2.2.1, .int m_s.2.2.2.2.2.1, .int m_s.2.2.2.2.2.2.1, .int m_s.2.2.2.2.2.2.2.1, .int m_s.2.2.2.2.2.2.2.2.1, .long m_s.2.2.2.2.2.2.2.2.2, g10, g11, g12, g13, g14, g15, g16, g17, g18, g19, g20, g21, g22, g23, g24])), (a3, .inl (cB25, 900, .inl m_s.1))]) sz)) 0 0 (va_A ([(a0, .inr (9, [g5, g6, g7, g8, g9, .ref a3, .int m_s.2.1, .int m_s.2.2.1, .int m_s.2.2.2.1, .int m_s.2.2.2.2.1, .int m_s.2.2.2.2.2.1, .int m_s.2.2.2.2.2.2.1, .int m_s.2.2.2.2.2.2.2.1, .int m_s.2.2.2.2.2.2.2.2.1, .long m_s.2.2.2.2.2.2.2.2.2, g10, g11, g12, g13, g14, g15, g16, g17, g18, g19, g20, g21, g22, g23, g24])), (a3, .inl (cB25, 900, .inl m_s.1))]) sz) := by
  refine Met.ofW (cc := cX12_isWord) (maxL := 2) (ret := (some .boolean)) (by decide) rfl ?_
  intro p e s m args below meth c s₁ B0 hml hv
  obtain ⟨rfl, hsz, hP, hK, hD0, hN, hBs, hE, hX⟩ := hv
  have hBA := PF_reg hD0 hBs
  have xs1 : S1 B a1 w1 s := hX (a1, w1) (List.mem_of_getElem? (i := 0) rfl)
  have hx := B0.exec
  have hb := B0.bytes
  have hr := B0.returns
  have hts := atoms_spec (ws := vfX12_isWord) B0.pre
  have hown : s.vm.findClass RX12 = some m.cls := findClass_of_methodNamed B0.named
  have hlocks := B0.notSynchronized
  subst hsz
  have hD := hD0.self (sz := s.heap.size)
  generalize hAe : va_A ([(a0, .inr (9, [g5, g6, g7, g8, g9, .ref a3, .int m_s.2.1, .int m_s.2.2.1, .int m_s.2.2.2.1, .int m_s.2.2.2.2.1, .int m_s.2.2.2.2.2.1, .int m_s.2.2.2.2.2.2.1, .int m_s.2.2.2.2.2.2.2.1, .int m_s.2.2.2.2.2.2.2.2.1, .long m_s.2.2.2.2.2.2.2.2.2, g10, g11, g12, g13, g14, g15, g16, g17, g18, g19, g20, g21, g22, g23, g24])), (a3, .inl (cB25, 900, .inl m_s.1))]) s.heap.size = A at hD hBA ⊢
  have hA : ∀ q : Nat, s.heap.size ≤ q → A q := fun q h => by rw [← hAe]; exact Or.inr h
  have hS : va_S A s.heap s.heap [] := va_S.rf
  have hP : va_P (dC, dI) vwCl ([(a0, .inr (9, [g5, g6, g7, g8, g9, .ref a3, .int m_s.2.1, .int m_s.2.2.1, .int m_s.2.2.2.1, .int m_s.2.2.2.2.1, .int m_s.2.2.2.2.2.1, .int m_s.2.2.2.2.2.2.1, .int m_s.2.2.2.2.2.2.2.1, .int m_s.2.2.2.2.2.2.2.2.1, .long m_s.2.2.2.2.2.2.2.2.2, g10, g11, g12, g13, g14, g15, g16, g17, g18, g19, g20, g21, g22, g23, g24])), (a3, .inl (cB25, 900, .inl m_s.1))]) s.heap := hP
  have hl := lv_entry ([.ref a0, .ref a1]) (n := 2) (Nat.le_of_ble_eq_true rfl)
  rw [lg_entry_eq]
  generalize (lg_sl ([.ref a0, .ref a1]) ++ List.replicate (2 - (lg_sl ([.ref a0, .ref a1])).length) Slot.unset).toArray = ls at hl ⊢
  have hl : lv_has ls 2 [(0, .ref a0), (1, .ref a1)] := hl
  have hB : RB B s A := ⟨hBA, hBs⟩
  refine W_q (fun QQ hQQ => ?_)
  rw [f_X12_isWord] at h
  refine lv_aload_n hx hb (zat zrX12_isWord_0_ok 0 rfl) rfl (lv_at hl 0 rfl) ?_
  refine va_get (D := (dC, dI)) (ci := 9) (v := .int m_s.2.2.2.2.1) (C := RX12) (T := TX12) (N := 30) hx hb hts ifX12_isWord_X12 hown hK hP 0 rfl rfl 9 (by decide) (hts (.fieldLink RX12 68 "HookPierModel" "sort" "I") (List.mem_of_getElem? (i := 1) rfl)) (fun _ h9 => h9) rfl (zat zrX12_isWord_0_ok 1 rfl) ?_
  refine lv_iconst (v := 2) hx hb (zat zrX12_isWord_0_ok 2 rfl) (by decide) ?_
  refine lv_icmp_ne (tgt := 24) hx hb (zat zrX12_isWord_0_ok 3 rfl) (by decide) (fun c5 => ?_) (fun c5 => ?_)
  · have h := (if_neg c5).symm.trans h
    refine lv_iconst (v := 0) hx hb (zat zrX12_isWord_0_ok 12 rfl) (by decide) ?_
    obtain rfl := Option.some.inj h
    obtain ⟨hP9, hD9⟩ := pd_sub ([(a0, .inr (9, [g5, g6, g7, g8, g9, .ref a3, .int m_s.2.1, .int m_s.2.2.1, .int m_s.2.2.2.1, .int m_s.2.2.2.2.1, .int m_s.2.2.2.2.2.1, .int m_s.2.2.2.2.2.2.1, .int m_s.2.2.2.2.2.2.2.1, .int m_s.2.2.2.2.2.2.2.2.1, .long m_s.2.2.2.2.2.2.2.2.2, g10, g11, g12, g13, g14, g15, g16, g17, g18, g19, g20, g21, g22, g23, g24])), (a3, .inl (cB25, 900, .inl m_s.1))]) [0, 1] hP hD (by decide) rfl
    have hK9 := hK.sub (tys' := []) [] rfl
    rw [hQQ]
    exact W.zret (v := (0 : Int32)) hx hb hr rfl (fun t ht hW => ⟨⟨(0 : Int32), (), rfl, ⟨rfl, (by decide)⟩, by rw [ht]; exact hP9, va_K.moved hW.alike hK9, hD9⟩, hS.F ht⟩) hS.2.2 (zat zrX12_isWord_0_ok 13 rfl)
  · have h := (if_pos c5).symm.trans h
    refine lv_aload_n hx hb (zat zrX12_isWord_0_ok 4 rfl) rfl (lv_at hl 0 rfl) ?_
    refine va_get (D := (dC, dI)) (ci := 9) (v := .long m_s.2.2.2.2.2.2.2.2.2) (C := RX12) (T := TX12) (N := 30) hx hb hts ifX12_isWord_X12 hown hK hP 0 rfl rfl 14 (by decide) (hts (.fieldLink RX12 84 "HookPierModel" "word" "J") (List.mem_of_getElem? (i := 2) rfl)) (fun _ h9 => h9) rfl (zat zrX12_isWord_0_ok 5 rfl) ?_
    refine lv_aload_n hx hb (zat zrX12_isWord_0_ok 6 rfl) rfl (lv_at hl 1 rfl) ?_
    obtain ⟨o13, eo13, h⟩ := bd_of h
    refine ck_l (wc := []) (wr := ([(a0, .inr (9, [g5, g6, g7, g8, g9, .ref a3, .int m_s.2.1, .int m_s.2.2.1, .int m_s.2.2.2.1, .int m_s.2.2.2.2.1, .int m_s.2.2.2.2.2.1, .int m_s.2.2.2.2.2.2.1, .int m_s.2.2.2.2.2.2.2.1, .int m_s.2.2.2.2.2.2.2.2.1, .long m_s.2.2.2.2.2.2.2.2.2, g10, g11, g12, g13, g14, g15, g16, g17, g18, g19, g20, g21, g22, g23, g24])), (a3, .inl (cB25, 900, .inl m_s.1))])) hP hD hK hS hA [] [0, 1] rfl rfl (by decide) (by decide) (by decide) (fun hPc hDc => (va_runS (As := [.ref a1]) (rest := [.long m_s.2.2.2.2.2.2.2.2.2]) ⟨hx, hb, hml, hown, hts⟩ (kfX12_packed l dC dI a1 w1 s.heap.size B o13 eo13) (va_cwS 1 hts gfX12_isWord_0 rfl rfl rfl (by decide +kernel) ⟨(Nat.le_of_ble_eq_true rfl), (Nat.le_of_ble_eq_true rfl)⟩) (PSF hPc (hK.sub (tys' := ([])) [] rfl) hDc hN hS hB hE (S1c xs1 S1n)) rfl rfl hl.1 rfl (lv_room (Nat.le_of_ble_eq_true rfl)) (zat zrX12_isWord_0_ok 7 rfl) ⟨(Nat.le_of_ble_eq_true rfl), (Nat.le_of_ble_eq_true rfl)⟩)) (fun r13 _ H locs hw hP hD _ hS => ?_)
    obtain rfl := hw.symm
    obtain ⟨hP, hD⟩ := pd_mk ([(a0, .inr (9, [g5, g6, g7, g8, g9, .ref a3, .int m_s.2.1, .int m_s.2.2.1, .int m_s.2.2.2.1, .int m_s.2.2.2.2.1, .int m_s.2.2.2.2.2.1, .int m_s.2.2.2.2.2.2.1, .int m_s.2.2.2.2.2.2.2.1, .int m_s.2.2.2.2.2.2.2.2.1, .long m_s.2.2.2.2.2.2.2.2.2, g10, g11, g12, g13, g14, g15, g16, g17, g18, g19, g20, g21, g22, g23, g24])), (a3, .inl (cB25, 900, .inl m_s.1))]) hP hD
    refine W.lcmp hx hb (zat zrX12_isWord_0_ok 8 rfl) ?_
    refine lv_if_ne (tgt := 24) hx hb (zat zrX12_isWord_0_ok 9 rfl) (by decide) (fun c17 => ?_) (fun c17 => ?_)
    · have h := (if_neg c17).symm.trans h
      refine lv_iconst (v := 0) hx hb (zat zrX12_isWord_0_ok 12 rfl) (by decide) ?_
      obtain rfl := Option.some.inj h
      obtain ⟨hP9, hD9⟩ := pd_sub ([(a0, .inr (9, [g5, g6, g7, g8, g9, .ref a3, .int m_s.2.1, .int m_s.2.2.1, .int m_s.2.2.2.1, .int m_s.2.2.2.2.1, .int m_s.2.2.2.2.2.1, .int m_s.2.2.2.2.2.2.1, .int m_s.2.2.2.2.2.2.2.1, .int m_s.2.2.2.2.2.2.2.2.1, .long m_s.2.2.2.2.2.2.2.2.2, g10, g11, g12, g13, g14, g15, g16, g17, g18, g19, g20, g21, g22, g23, g24])), (a3, .inl (cB25, 900, .inl m_s.1))]) [0, 1] hP hD (by decide) rfl
      have hK9 := hK.sub (tys' := []) [] rfl
      rw [hQQ]
      exact W.zret (v := (0 : Int32)) hx hb hr rfl (fun t ht hW => ⟨⟨(0 : Int32), (), rfl, ⟨rfl, (by decide)⟩, by rw [ht]; exact hP9, va_K.moved hW.alike hK9, hD9⟩, hS.F ht⟩) hS.2.2 (zat zrX12_isWord_0_ok 13 rfl)
    · have h := (if_pos c17).symm.trans h
      refine lv_iconst (v := 1) hx hb (zat zrX12_isWord_0_ok 10 rfl) (by decide) ?_
      refine lv_goto (tgt := 25) hx hb (zat zrX12_isWord_0_ok 11 rfl) (by decide) ?_
      obtain rfl := Option.some.inj h
      obtain ⟨hP9, hD9⟩ := pd_sub ([(a0, .inr (9, [g5, g6, g7, g8, g9, .ref a3, .int m_s.2.1, .int m_s.2.2.1, .int m_s.2.2.2.1, .int m_s.2.2.2.2.1, .int m_s.2.2.2.2.2.1, .int m_s.2.2.2.2.2.2.1, .int m_s.2.2.2.2.2.2.2.1, .int m_s.2.2.2.2.2.2.2.2.1, .long m_s.2.2.2.2.2.2.2.2.2, g10, g11, g12, g13, g14, g15, g16, g17, g18, g19, g20, g21, g22, g23, g24])), (a3, .inl (cB25, 900, .inl m_s.1))]) [0, 1] hP hD (by decide) rfl
      have hK9 := hK.sub (tys' := []) [] rfl
      rw [hQQ]
      exact W.zret (v := (1 : Int32)) hx hb hr rfl (fun t ht hW => ⟨⟨(1 : Int32), (), rfl, ⟨rfl, (by decide)⟩, by rw [ht]; exact hP9, va_K.moved hW.alike hK9, hD9⟩, hS.F ht⟩) hS.2.2 (zat zrX12_isWord_0_ok 13 rfl)
noncomputable def zrX12_eatsSemicolon_0 : List ZR := zc 0 true (.aload_n 0) 1 (zc 1 true (.getfield 68) 3 (zc 4 true (.iconst 4) 1 (zc 5 true (.if_icmp .ne 7) 3 (zc 8 true (.iconst 1) 1 (zc 9 true (.goto 4) 3 (zc 12 true (.iconst 0) 1 (zc 13 true (.istore_n 1) 1 (zc 14 true (.iload_n 1) 1 (zc 15 true (.ifCond .eq 7) 3 (zc 18 true (.aload_n 0) 1 (zc 19 true (.invokevirtual 104) 3 (zc 22 true (.iload_n 1) 1 (zc 23 true (.ireturn) 1 ([]))))))))))))))
theorem zrX12_eatsSemicolon_0_ok : zck 0 ((zby cX12_eatsSemicolon).drop 0) zrX12_eatsSemicolon_0 = true := by decide +kernel
def vfX12_eatsSemicolon : List Cond := List.cons (.code yX12_eatsSemicolon cX12_eatsSemicolon 2 (some .boolean)) (apW [.fieldLink RX12 68 "HookPierModel" "sort" "I", .methodLink RX12 104 yX12_goesOn, .instanceMethod yX12_goesOn, .selects RX12 yX12_goesOn yX12_goesOn, .initialized RX12] (apW wsX120 (vfX12_goesOn)))
theorem ifX12_eatsSemicolon_X12 : ∀ w ∈ wsX120, w ∈ vfX12_eatsSemicolon := fun _ h => (List.mem_cons_of_mem _ (List.mem_append_right _ (List.mem_append_left _ h)))
theorem qfX12_eatsSemicolon : Good vfX12_eatsSemicolon := gd_cons (by decide +kernel) (gd_app (gd_dec (by decide +kernel) : Good [.fieldLink RX12 68 "HookPierModel" "sort" "I", .methodLink RX12 104 yX12_goesOn, .instanceMethod yX12_goesOn, .selects RX12 yX12_goesOn yX12_goesOn, .initialized RX12]) (gd_app qsX12 qfX12_goesOn))
theorem gfX12_eatsSemicolon_0 : GoodIn vfX12_eatsSemicolon (wsV RX12 104 RX12 yX12_goesOn vfX12_goesOn) := goodIn_app (goodIn_r [.methodLink RX12 104 yX12_goesOn, .instanceMethod yX12_goesOn, .selects RX12 yX12_goesOn yX12_goesOn, .initialized RX12] [2, 3, 4, 5] rfl (by decide +kernel)) (goodIn_m (fun _ h => (List.mem_cons_of_mem _ (List.mem_append_right _ (List.mem_append_right _ h)))) qfX12_goesOn)
set_option maxHeartbeats 2000000 in
set_option maxRecDepth 100000 in
theorem kfX12_eatsSemicolon (l : Launch) (dC : Nat → ClassId) (dI : Nat → Nat → Nat) (a0 : Nat) (a1 : Nat) (m_s : TX12_s) (g3 : Value) (g4 : Value) (g5 : Value) (g6 : Value) (g7 : Value) (g8 : Value) (g9 : Value) (g10 : Value) (g11 : Value) (g12 : Value) (g13 : Value) (g14 : Value) (g15 : Value) (g16 : Value) (g17 : Value) (g18 : Value) (g19 : Value) (g20 : Value) (g21 : Value) (g22 : Value) (cB23 : ClassId) (sz : Nat) (out : (Int32 × TX12_s)) (h : f_X12_eatsSemicolon m_s = some out) : KCi l yX12_eatsSemicolon vfX12_eatsSemicolon ({ frames := 2, cells := 0, slots := 0, locals := 43 }) (dC, dI) [.ref a0] sz ([(a0, .inr (9, [g3, g4, g5, g6, g7, .ref a1, .int m_s.2.1, .int m_s.2.2.1, .int m_s.2.2.2.1, .int m_s.2.2.2.2.1, .int m_s.2.2.2.2.2.1, .int m_s.2.2.2.2.2.2.1, .int m_s.2.2.2.2.2.2.2.1, .int m_s.2.2.2.2.2.2.2.2.1, .long m_s.2.2.2.2.2.2.2.2.2, g8, g9, g10, g11, g12, g13, g14, g15, g16, g17, g18, g19, g20, g21, g22])), (a1, .inl (cB23, 900, .inl m_s.1))]) ((cB23, .byte) :: []) (fun (r : Int32) _ => r = out.1 ∧ (0 ≤ r.toInt ∧ r.toInt ≤ 1)) ([(a0, .inr (9, [g3, g4, g5, g6, g7, .ref a1, .int out.2.2.1, .int out.2.2.2.1, .int out.2.2.2.2.1, .int out.2.2.2.2.2.1, .int out.2.2.2.2.2.2.1, .int out.2.2.2.2.2.2.2.1, .int out.2.2.2.2.2.2.2.2.1, .int out.2.2.2.2.2.2.2.2.2.1, .long out.2.2.2.2.2.2.2.2.2.2, g8, g9, g10, g11, g12, g13, g14, g15, g16, g17, g18, g19, g20, g21, g22])), (a1, .inl (cB23, 900, .inl out.2.1))]) 0 0 := by
  refine Met.ofW (cc := cX12_eatsSemicolon) (maxL := 2) (ret := (some .boolean)) (by decide) rfl ?_
  intro p e s m args below meth c s₁ B0 hml hv
  obtain ⟨rfl, hsz, hP, hK, hD0, hN⟩ := hv
  have hx := B0.exec
  have hb := B0.bytes
  have hr := B0.returns
  have hts := atoms_spec (ws := vfX12_eatsSemicolon) B0.pre
  have hown : s.vm.findClass RX12 = some m.cls := findClass_of_methodNamed B0.named
  have hlocks := B0.notSynchronized
  subst hsz
  have hD := hD0.self (sz := s.heap.size)
  generalize hAe : va_A ([(a0, .inr (9, [g3, g4, g5, g6, g7, .ref a1, .int m_s.2.1, .int m_s.2.2.1, .int m_s.2.2.2.1, .int m_s.2.2.2.2.1, .int m_s.2.2.2.2.2.1, .int m_s.2.2.2.2.2.2.1, .int m_s.2.2.2.2.2.2.2.1, .int m_s.2.2.2.2.2.2.2.2.1, .long m_s.2.2.2.2.2.2.2.2.2, g8, g9, g10, g11, g12, g13, g14, g15, g16, g17, g18, g19, g20, g21, g22])), (a1, .inl (cB23, 900, .inl m_s.1))]) s.heap.size = A at hD ⊢
  have hA : ∀ q : Nat, s.heap.size ≤ q → A q := fun q h => by rw [← hAe]; exact Or.inr h
  have hS : va_S A s.heap s.heap [] := va_S.rf
  have hP : va_P (dC, dI) vwCl ([(a0, .inr (9, [g3, g4, g5, g6, g7, .ref a1, .int m_s.2.1, .int m_s.2.2.1, .int m_s.2.2.2.1, .int m_s.2.2.2.2.1, .int m_s.2.2.2.2.2.1, .int m_s.2.2.2.2.2.2.1, .int m_s.2.2.2.2.2.2.2.1, .int m_s.2.2.2.2.2.2.2.2.1, .long m_s.2.2.2.2.2.2.2.2.2, g8, g9, g10, g11, g12, g13, g14, g15, g16, g17, g18, g19, g20, g21, g22])), (a1, .inl (cB23, 900, .inl m_s.1))]) s.heap := hP
  have hl := lv_entry ([.ref a0]) (n := 2) (Nat.le_of_ble_eq_true rfl)
  rw [lg_entry_eq]
  generalize (lg_sl ([.ref a0]) ++ List.replicate (2 - (lg_sl ([.ref a0])).length) Slot.unset).toArray = ls at hl ⊢
  have hl : lv_has ls 2 [(0, .ref a0)] := hl
  refine W_q (fun QQ hQQ => ?_)
  rw [f_X12_eatsSemicolon] at h
  refine lv_aload_n hx hb (zat zrX12_eatsSemicolon_0_ok 0 rfl) rfl (lv_at hl 0 rfl) ?_
  refine va_get (D := (dC, dI)) (ci := 9) (v := .int m_s.2.2.2.2.1) (C := RX12) (T := TX12) (N := 30) hx hb hts ifX12_eatsSemicolon_X12 hown hK hP 0 rfl rfl 9 (by decide) (hts (.fieldLink RX12 68 "HookPierModel" "sort" "I") (List.mem_of_getElem? (i := 1) rfl)) (fun _ h9 => h9) rfl (zat zrX12_eatsSemicolon_0_ok 1 rfl) ?_
  refine lv_iconst (v := 4) hx hb (zat zrX12_eatsSemicolon_0_ok 2 rfl) (by decide) ?_
  have J13 : ∀ (v13_t0 : Int32) (H : Heap) (locs : List Loc) (ls : Array Slot), f_X12_eatsSemicolon_J13 m_s v13_t0 = some out → 0 ≤ v13_t0.toInt ∧ v13_t0.toInt ≤ 1 → va_P (dC, dI) vwCl ([(a0, .inr (9, [g3, g4, g5, g6, g7, .ref a1, .int m_s.2.1, .int m_s.2.2.1, .int m_s.2.2.2.1, .int m_s.2.2.2.2.1, .int m_s.2.2.2.2.2.1, .int m_s.2.2.2.2.2.2.1, .int m_s.2.2.2.2.2.2.2.1, .int m_s.2.2.2.2.2.2.2.2.1, .long m_s.2.2.2.2.2.2.2.2.2, g8, g9, g10, g11, g12, g13, g14, g15, g16, g17, g18, g19, g20, g21, g22])), (a1, .inl (cB23, 900, .inl m_s.1))]) H → va_D A ([(a0, .inr (9, [g3, g4, g5, g6, g7, .ref a1, .int m_s.2.1, .int m_s.2.2.1, .int m_s.2.2.2.1, .int m_s.2.2.2.2.1, .int m_s.2.2.2.2.2.1, .int m_s.2.2.2.2.2.2.1, .int m_s.2.2.2.2.2.2.2.1, .int m_s.2.2.2.2.2.2.2.2.1, .long m_s.2.2.2.2.2.2.2.2.2, g8, g9, g10, g11, g12, g13, g14, g15, g16, g17, g18, g19, g20, g21, g22])), (a1, .inl (cB23, 900, .inl m_s.1))]) → va_S A s.heap H locs → lv_has ls 2 [(0, .ref a0)] → W p l e (headSpec vfX12_eatsSemicolon { frames := 2, cells := 0, slots := 0, locals := 43 }).room s m ([.ref a0]).toArray below meth c H locs 0 0 QQ (F0 m 13 ls [.int v13_t0]) := by
    intro v13_t0 H locs ls h zb_v13_t0 hP hD hS hl
    rw [f_X12_eatsSemicolon_J13] at h
    refine lv_istore_n (lv' := [(1, .int v13_t0), (0, .ref a0)]) hx hb (zat zrX12_eatsSemicolon_0_ok 7 rfl) rfl hl (by decide) rfl (fun ls hl => ?_)
    refine lv_iload_n hx hb (zat zrX12_eatsSemicolon_0_ok 8 rfl) rfl (lv_at hl 0 rfl) ?_
    have J22 : ∀ (v22_m_s : TX12_s) (H : Heap) (locs : List Loc) (ls : Array Slot), f_X12_eatsSemicolon_J22 v13_t0 v22_m_s = some out → va_P (dC, dI) vwCl ([(a0, .inr (9, [g3, g4, g5, g6, g7, .ref a1, .int v22_m_s.2.1, .int v22_m_s.2.2.1, .int v22_m_s.2.2.2.1, .int v22_m_s.2.2.2.2.1, .int v22_m_s.2.2.2.2.2.1, .int v22_m_s.2.2.2.2.2.2.1, .int v22_m_s.2.2.2.2.2.2.2.1, .int v22_m_s.2.2.2.2.2.2.2.2.1, .long v22_m_s.2.2.2.2.2.2.2.2.2, g8, g9, g10, g11, g12, g13, g14, g15, g16, g17, g18, g19, g20, g21, g22])), (a1, .inl (cB23, 900, .inl v22_m_s.1))]) H → va_D A ([(a0, .inr (9, [g3, g4, g5, g6, g7, .ref a1, .int v22_m_s.2.1, .int v22_m_s.2.2.1, .int v22_m_s.2.2.2.1, .int v22_m_s.2.2.2.2.1, .int v22_m_s.2.2.2.2.2.1, .int v22_m_s.2.2.2.2.2.2.1, .int v22_m_s.2.2.2.2.2.2.2.1, .int v22_m_s.2.2.2.2.2.2.2.2.1, .long v22_m_s.2.2.2.2.2.2.2.2.2, g8, g9, g10, g11, g12, g13, g14, g15, g16, g17, g18, g19, g20, g21, g22])), (a1, .inl (cB23, 900, .inl v22_m_s.1))]) → va_S A s.heap H locs → lv_has ls 2 [(1, .int v13_t0)] → W p l e (headSpec vfX12_eatsSemicolon { frames := 2, cells := 0, slots := 0, locals := 43 }).room s m ([.ref a0]).toArray below meth c H locs 0 0 QQ (F0 m 22 ls []) := by
      intro v22_m_s H locs ls h  hP hD hS hl
      rw [f_X12_eatsSemicolon_J22] at h
      refine lv_iload_n hx hb (zat zrX12_eatsSemicolon_0_ok 12 rfl) rfl (lv_at hl 0 rfl) ?_
      obtain rfl := Option.some.inj h
      obtain ⟨hP9, hD9⟩ := pd_sub ([(a0, .inr (9, [g3, g4, g5, g6, g7, .ref a1, .int v22_m_s.2.1, .int v22_m_s.2.2.1, .int v22_m_s.2.2.2.1, .int v22_m_s.2.2.2.2.1, .int v22_m_s.2.2.2.2.2.1, .int v22_m_s.2.2.2.2.2.2.1, .int v22_m_s.2.2.2.2.2.2.2.1, .int v22_m_s.2.2.2.2.2.2.2.2.1, .long v22_m_s.2.2.2.2.2.2.2.2.2, g8, g9, g10, g11, g12, g13, g14, g15, g16, g17, g18, g19, g20, g21, g22])), (a1, .inl (cB23, 900, .inl v22_m_s.1))]) [0, 1] hP hD (by decide) rfl
      have hK9 := hK.sub (tys' := []) [] rfl
      rw [hQQ]
      exact W.zret (v := v13_t0) hx hb hr (narz zb_v13_t0) (fun t ht hW => ⟨⟨v13_t0, (), rfl, ⟨rfl, zb_v13_t0⟩, by rw [ht]; exact hP9, va_K.moved hW.alike hK9, hD9⟩, hS.F ht⟩) hS.2.2 (zat zrX12_eatsSemicolon_0_ok 13 rfl)
    refine lv_if_eq (tgt := 22) hx hb (zat zrX12_eatsSemicolon_0_ok 9 rfl) (by decide) (fun c15 => ?_) (fun c15 => ?_)
    · have h := (if_pos c15).symm.trans h
      exact J22 m_s H _ ls h  hP hD hS (lv_sub hl [0] rfl)
    · have h := (if_neg c15).symm.trans h
      refine lv_aload_n hx hb (zat zrX12_eatsSemicolon_0_ok 10 rfl) rfl (lv_at hl 1 rfl) ?_
      obtain ⟨o19, eo19, h⟩ := bd_of h
      refine ck_v (wc := ([(a0, .inr (9, [g3, g4, g5, g6, g7, .ref a1, .int m_s.2.1, .int m_s.2.2.1, .int m_s.2.2.2.1, .int m_s.2.2.2.2.1, .int m_s.2.2.2.2.2.1, .int m_s.2.2.2.2.2.2.1, .int m_s.2.2.2.2.2.2.2.1, .int m_s.2.2.2.2.2.2.2.2.1, .long m_s.2.2.2.2.2.2.2.2.2, g8, g9, g10, g11, g12, g13, g14, g15, g16, g17, g18, g19, g20, g21, g22])), (a1, .inl (cB23, 900, .inl m_s.1))])) (wr := []) hP hD hK hS hA [0, 1] [] rfl rfl (by decide) (by decide) (by decide) (fun hPc hDc => (va_runV (As := []) (rest := []) ⟨hx, hb, hml, hown, hts⟩ (kfX12_goesOn l dC dI a0 a1 m_s (g3) (g4) (g5) (g6) (g7) (g8) (g9) (g10) (g11) (g12) (g13) (g14) (g15) (g16) (g17) (g18) (g19) (g20) (g21) (g22) cB23 H.size o19 eo19) (cwV 0 hts gfX12_eatsSemicolon_0 rfl rfl rfl (by decide +kernel) ⟨(Nat.le_of_ble_eq_true rfl), (Nat.le_of_ble_eq_true rfl)⟩) (PV hPc (hK.sub (tys' := ((cB23, .byte) :: [])) [0] rfl) hDc hN 0 rfl rfl) rfl rfl hl.1 rfl (lv_room (Nat.le_of_ble_eq_true rfl)) (zat zrX12_eatsSemicolon_0_ok 11 rfl) ⟨(Nat.le_of_ble_eq_true rfl), (Nat.le_of_ble_eq_true rfl)⟩)) (fun _ H locs hw hP hD _ hS => ?_)
      obtain ⟨hP, hD⟩ := pd_mk ([(a0, .inr (9, [g3, g4, g5, g6, g7, .ref a1, .int o19.2.1, .int o19.2.2.1, .int o19.2.2.2.1, .int o19.2.2.2.2.1, .int o19.2.2.2.2.2.1, .int o19.2.2.2.2.2.2.1, .int o19.2.2.2.2.2.2.2.1, .int o19.2.2.2.2.2.2.2.2.1, .long o19.2.2.2.2.2.2.2.2.2, g8, g9, g10, g11, g12, g13, g14, g15, g16, g17, g18, g19, g20, g21, g22])), (a1, .inl (cB23, 900, .inl o19.1))]) hP hD
      exact J22 o19 H _ ls h  hP hD hS (lv_sub hl [0] rfl)
  refine lv_icmp_ne (tgt := 12) hx hb (zat zrX12_eatsSemicolon_0_ok 3 rfl) (by decide) (fun c5 => ?_) (fun c5 => ?_)
  · have h := (if_neg c5).symm.trans h
    refine lv_iconst (v := 0) hx hb (zat zrX12_eatsSemicolon_0_ok 6 rfl) (by decide) ?_
    exact J13 (0 : Int32) s.heap _ ls h (by decide) hP hD hS (lv_sub hl [0] rfl)
  · have h := (if_pos c5).symm.trans h
    refine lv_iconst (v := 1) hx hb (zat zrX12_eatsSemicolon_0_ok 4 rfl) (by decide) ?_
    refine lv_goto (tgt := 13) hx hb (zat zrX12_eatsSemicolon_0_ok 5 rfl) (by decide) ?_
    exact J13 (1 : Int32) s.heap _ ls h (by decide) hP hD hS (lv_sub hl [0] rfl)
noncomputable def zrX12_needs_0 : List ZR := zc 0 true (.aload_n 0) 1 (zc 1 true (.aload_n 1) 1 (zc 2 true (.invokevirtual 107) 3 (zc 5 true (.ifCond .ne 8) 3 (zc 8 true (.aload_n 0) 1 (zc 9 true (.iconst 1) 1 (zc 10 true (.invokevirtual 111) 3 (zc 13 true (.aload_n 0) 1 (zc 14 true (.invokevirtual 104) 3 (zc 17 true (.return_) 1 ([]))))))))))
theorem zrX12_needs_0_ok : zck 0 ((zby cX12_needs).drop 0) zrX12_needs_0 = true := by decide +kernel
def vfX12_needs : List Cond := List.cons (.code yX12_needs cX12_needs 2 none) (apW [.methodLink RX12 107 yX12_isWord, .instanceMethod yX12_isWord, .selects RX12 yX12_isWord yX12_isWord, .initialized RX12, .methodLink RX12 104 yX12_goesOn, .instanceMethod yX12_goesOn, .selects RX12 yX12_goesOn yX12_goesOn, .methodLink RX12 111 yX12_flaw, .instanceMethod yX12_flaw, .selects RX12 yX12_flaw yX12_flaw] (apW vfX12_isWord (apW vfX12_goesOn (vfX12_flaw))))
theorem qfX12_needs : Good vfX12_needs := gd_cons (by decide +kernel) (gd_app (gd_dec (by decide +kernel) : Good [.methodLink RX12 107 yX12_isWord, .instanceMethod yX12_isWord, .selects RX12 yX12_isWord yX12_isWord, .initialized RX12, .methodLink RX12 104 yX12_goesOn, .instanceMethod yX12_goesOn, .selects RX12 yX12_goesOn yX12_goesOn, .methodLink RX12 111 yX12_flaw, .instanceMethod yX12_flaw, .selects RX12 yX12_flaw yX12_flaw]) (gd_app qfX12_isWord (gd_app qfX12_goesOn qfX12_flaw)))
theorem gfX12_needs_0 : GoodIn vfX12_needs (wsV RX12 107 RX12 yX12_isWord vfX12_isWord) := goodIn_app (goodIn_r [.methodLink RX12 107 yX12_isWord, .instanceMethod yX12_isWord, .selects RX12 yX12_isWord yX12_isWord, .initialized RX12] [1, 2, 3, 4] rfl (by decide +kernel)) (goodIn_m (fun _ h => (List.mem_cons_of_mem _ (List.mem_append_right _ (List.mem_append_left _ h)))) qfX12_isWord)
theorem gfX12_needs_1 : GoodIn vfX12_needs (wsV RX12 104 RX12 yX12_goesOn vfX12_goesOn) := goodIn_app (goodIn_r [.methodLink RX12 104 yX12_goesOn, .instanceMethod yX12_goesOn, .selects RX12 yX12_goesOn yX12_goesOn, .initialized RX12] [5, 6, 7, 4] rfl (by decide +kernel)) (goodIn_m (fun _ h => (List.mem_cons_of_mem _ (List.mem_append_right _ (List.mem_append_right _ (List.mem_append_left _ h))))) qfX12_goesOn)
theorem gfX12_needs_2 : GoodIn vfX12_needs (wsV RX12 111 RX12 yX12_flaw vfX12_flaw) := goodIn_app (goodIn_r [.methodLink RX12 111 yX12_flaw, .instanceMethod yX12_flaw, .selects RX12 yX12_flaw yX12_flaw, .initialized RX12] [8, 9, 10, 4] rfl (by decide +kernel)) (goodIn_m (fun _ h => (List.mem_cons_of_mem _ (List.mem_append_right _ (List.mem_append_right _ (List.mem_append_right _ h))))) qfX12_flaw)
set_option maxHeartbeats 2000000 in
set_option maxRecDepth 100000 in
theorem kfX12_needs (l : Launch) (dC : Nat → ClassId) (dI : Nat → Nat → Nat) (a0 : Nat) (a1 : Nat) (w1 : List Int32) (a3 : Nat) (m_s : TX12_s) (g5 : Value) (g6 : Value) (g7 : Value) (g8 : Value) (g9 : Value) (g10 : Value) (g11 : Value) (g12 : Value) (g13 : Value) (g14 : Value) (g15 : Value) (g16 : Value) (g17 : Value) (g18 : Value) (g19 : Value) (g20 : Value) (g21 : Value) (g22 : Value) (g23 : Value) (g24 : Value) (cB25 : ClassId) (sz : Nat) (B : Nat) (out : TX12_s) (h : f_X12_needs w1 m_s = some out) : Met l yX12_needs vfX12_needs ({ frames := 6, cells := 0, slots := 0, locals := 129 }) (PF (dC, dI) B [.ref a0, .ref a1] sz ([(a0, .inr (9, [g5, g6, g7, g8, g9, .ref a3, .int m_s.2.1, .int m_s.2.2.1, .int m_s.2.2.2.1, .int m_s.2.2.2.2.1, .int m_s.2.2.2.2.2.1, .int m_s.2.2.2.2.2.2.1, .int m_s.2.2.2.2.2.2.2.1, .int m_s.2.2.2.2.2.2.2.2.1, .long m_s.2.2.2.2.2.2.2.2.2, g10, g11, g12, g13, g14, g15, g16, g17, g18, g19, g20, g21, g22, g23, g24])), (a3, .inl (cB25, 900, .inl m_s.1))]) ((cB25, .byte) :: []) [(a1, w1)]) (va_Qv (S := Unit) (fun _ => True) (fun _ t => BC (dC, dI) (va_A ([(a0, .inr (9, [g5, g6, g7, g8, g9, .ref a3, .int m_s.2.1, .int m_s.2.2.1, .int m_s.2.2.2.1, .int m_s.2.2.2.2.1, .int m_s.2.2.2.2.2.1, .int m_s.2.2.2.2.2.2.1, .int m_s.2.2.2.2.2.2.2.1, .int m_s.2.2.2.2.2.2.2.2.1, .long m_s.2.2.2.2.2.2.2.2.2, g10, g11, g12, g13, g14, g15, g16, g17, g18, g19, g20, g21, g22, g23, g24])), (a3, .inl (cB25, 900, .inl m_s.1))]) sz) ([(a0, .inr (9, [g5, g6, g7, g8, g9, .ref a3, .int out.2.1, .int out.2.2.1, .int out.2.2.2.1, .int out.2.2.2.2.1, .int out.2.2.2.2.2.1, .int out.2.2.2.2.2.2.1, .int out.2.2.2.2.2.2.2.1, .int out.2.2.2.2.2.2.2.2.1, .long out.2.2.2.2.2.2.2.2.2, g10, g11, g12, g13, g14, g15, g16, g17, g18, g19, g20, g21, g22, g23, g24])), (a3, .inl (cB25, 900, .inl out.1))]) [] t) (va_A ([(a0, .inr (9, [g5, g6, g7, g8, g9, .ref a3, .int m_s.2.1, .int m_s.2.2.1, .int m_s.2.2.2.1, .int m_s.2.2.2.2.1, .int m_s.2.2.2.2.2.1, .int m_s.2.2.2.2.2.2.1, .int m_s.2.2.2.2.2.2.2.1, .int m_s.2.2.2.2.2.2.2.2.1, .long m_s.2.2.2.2.2.2.2.2.2, g10, g11, g12, g13, g14, g15, g16, g17, g18, g19, g20, g21, g22, g23, g24])), (a3, .inl (cB25, 900, .inl m_s.1))]) sz)) 0 0 (va_A ([(a0, .inr (9, [g5, g6, g7, g8, g9, .ref a3, .int m_s.2.1, .int m_s.2.2.1, .int m_s.2.2.2.1, .int m_s.2.2.2.2.1, .int m_s.2.2.2.2.2.1, .int m_s.2.2.2.2.2.2.1, .int m_s.2.2.2.2.2.2.2.1, .int m_s.2.2.2.2.2.2.2.2.1, .long m_s.2.2.2.2.2.2.2.2.2, g10, g11, g12, g13, g14, g15, g16, g17, g18, g19, g20, g21, g22, g23, g24])), (a3, .inl (cB25, 900, .inl m_s.1))]) sz) := by
  refine Met.ofW (cc := cX12_needs) (maxL := 2) (ret := none) (by decide) rfl ?_
  intro p e s m args below meth c s₁ B0 hml hv
  obtain ⟨rfl, hsz, hP, hK, hD0, hN, hBs, hE, hX⟩ := hv
  have hBA := PF_reg hD0 hBs
  have xs1 : S1 B a1 w1 s := hX (a1, w1) (List.mem_of_getElem? (i := 0) rfl)
  have hx := B0.exec
  have hb := B0.bytes
  have hr := B0.returns
  have hts := atoms_spec (ws := vfX12_needs) B0.pre
  have hown : s.vm.findClass RX12 = some m.cls := findClass_of_methodNamed B0.named
  have hlocks := B0.notSynchronized
  subst hsz
  have hD := hD0.self (sz := s.heap.size)
  generalize hAe : va_A ([(a0, .inr (9, [g5, g6, g7, g8, g9, .ref a3, .int m_s.2.1, .int m_s.2.2.1, .int m_s.2.2.2.1, .int m_s.2.2.2.2.1, .int m_s.2.2.2.2.2.1, .int m_s.2.2.2.2.2.2.1, .int m_s.2.2.2.2.2.2.2.1, .int m_s.2.2.2.2.2.2.2.2.1, .long m_s.2.2.2.2.2.2.2.2.2, g10, g11, g12, g13, g14, g15, g16, g17, g18, g19, g20, g21, g22, g23, g24])), (a3, .inl (cB25, 900, .inl m_s.1))]) s.heap.size = A at hD hBA ⊢
  have hA : ∀ q : Nat, s.heap.size ≤ q → A q := fun q h => by rw [← hAe]; exact Or.inr h
  have hS : va_S A s.heap s.heap [] := va_S.rf
  have hP : va_P (dC, dI) vwCl ([(a0, .inr (9, [g5, g6, g7, g8, g9, .ref a3, .int m_s.2.1, .int m_s.2.2.1, .int m_s.2.2.2.1, .int m_s.2.2.2.2.1, .int m_s.2.2.2.2.2.1, .int m_s.2.2.2.2.2.2.1, .int m_s.2.2.2.2.2.2.2.1, .int m_s.2.2.2.2.2.2.2.2.1, .long m_s.2.2.2.2.2.2.2.2.2, g10, g11, g12, g13, g14, g15, g16, g17, g18, g19, g20, g21, g22, g23, g24])), (a3, .inl (cB25, 900, .inl m_s.1))]) s.heap := hP
  have hl := lv_entry ([.ref a0, .ref a1]) (n := 2) (Nat.le_of_ble_eq_true rfl)
  rw [lg_entry_eq]
  generalize (lg_sl ([.ref a0, .ref a1]) ++ List.replicate (2 - (lg_sl ([.ref a0, .ref a1])).length) Slot.unset).toArray = ls at hl ⊢
  have hl : lv_has ls 2 [(0, .ref a0), (1, .ref a1)] := hl
  have hB : RB B s A := ⟨hBA, hBs⟩
  refine W_q (fun QQ hQQ => ?_)
  rw [f_X12_needs] at h
  refine lv_aload_n hx hb (zat zrX12_needs_0_ok 0 rfl) rfl (lv_at hl 0 rfl) ?_
  refine lv_aload_n hx hb (zat zrX12_needs_0_ok 1 rfl) rfl (lv_at hl 1 rfl) ?_
  obtain ⟨o2, eo2, h⟩ := bd_of h
  refine ck_i (wc := ([(a0, .inr (9, [g5, g6, g7, g8, g9, .ref a3, .int m_s.2.1, .int m_s.2.2.1, .int m_s.2.2.2.1, .int m_s.2.2.2.2.1, .int m_s.2.2.2.2.2.1, .int m_s.2.2.2.2.2.2.1, .int m_s.2.2.2.2.2.2.2.1, .int m_s.2.2.2.2.2.2.2.2.1, .long m_s.2.2.2.2.2.2.2.2.2, g10, g11, g12, g13, g14, g15, g16, g17, g18, g19, g20, g21, g22, g23, g24])), (a3, .inl (cB25, 900, .inl m_s.1))])) (wr := []) hP hD hK hS hA [0, 1] [] rfl rfl (by decide) (by decide) (by decide) (fun hPc hDc => (va_runV (As := [.ref a1]) (rest := []) ⟨hx, hb, hml, hown, hts⟩ (kfX12_isWord l dC dI a0 a1 w1 a3 m_s (g5) (g6) (g7) (g8) (g9) (g10) (g11) (g12) (g13) (g14) (g15) (g16) (g17) (g18) (g19) (g20) (g21) (g22) (g23) (g24) cB25 s.heap.size B o2 eo2) (cwV 1 hts gfX12_needs_0 rfl rfl rfl (by decide +kernel) ⟨(Nat.le_of_ble_eq_true rfl), (Nat.le_of_ble_eq_true rfl)⟩) (PVF hPc (hK.sub (tys' := ((cB25, .byte) :: [])) [0] rfl) hDc hN hS hB hE (S1c xs1 S1n) 0 rfl rfl) rfl rfl hl.1 rfl (lv_room (Nat.le_of_ble_eq_true rfl)) (zat zrX12_needs_0_ok 2 rfl) ⟨(Nat.le_of_ble_eq_true rfl), (Nat.le_of_ble_eq_true rfl)⟩)) (fun r2 _ H locs hw hP hD _ hS => ?_)
  obtain ⟨hw, br2⟩ := hw
  obtain rfl := hw.symm
  obtain ⟨hP, hD⟩ := pd_mk ([(a0, .inr (9, [g5, g6, g7, g8, g9, .ref a3, .int m_s.2.1, .int m_s.2.2.1, .int m_s.2.2.2.1, .int m_s.2.2.2.2.1, .int m_s.2.2.2.2.2.1, .int m_s.2.2.2.2.2.2.1, .int m_s.2.2.2.2.2.2.2.1, .int m_s.2.2.2.2.2.2.2.2.1, .long m_s.2.2.2.2.2.2.2.2.2, g10, g11, g12, g13, g14, g15, g16, g17, g18, g19, g20, g21, g22, g23, g24])), (a3, .inl (cB25, 900, .inl m_s.1))]) hP hD
  have J13 : ∀ (v13_m_s : TX12_s) (H : Heap) (locs : List Loc) (ls : Array Slot), f_X12_needs_J13 v13_m_s = some out → va_P (dC, dI) vwCl ([(a0, .inr (9, [g5, g6, g7, g8, g9, .ref a3, .int v13_m_s.2.1, .int v13_m_s.2.2.1, .int v13_m_s.2.2.2.1, .int v13_m_s.2.2.2.2.1, .int v13_m_s.2.2.2.2.2.1, .int v13_m_s.2.2.2.2.2.2.1, .int v13_m_s.2.2.2.2.2.2.2.1, .int v13_m_s.2.2.2.2.2.2.2.2.1, .long v13_m_s.2.2.2.2.2.2.2.2.2, g10, g11, g12, g13, g14, g15, g16, g17, g18, g19, g20, g21, g22, g23, g24])), (a3, .inl (cB25, 900, .inl v13_m_s.1))]) H → va_D A ([(a0, .inr (9, [g5, g6, g7, g8, g9, .ref a3, .int v13_m_s.2.1, .int v13_m_s.2.2.1, .int v13_m_s.2.2.2.1, .int v13_m_s.2.2.2.2.1, .int v13_m_s.2.2.2.2.2.1, .int v13_m_s.2.2.2.2.2.2.1, .int v13_m_s.2.2.2.2.2.2.2.1, .int v13_m_s.2.2.2.2.2.2.2.2.1, .long v13_m_s.2.2.2.2.2.2.2.2.2, g10, g11, g12, g13, g14, g15, g16, g17, g18, g19, g20, g21, g22, g23, g24])), (a3, .inl (cB25, 900, .inl v13_m_s.1))]) → va_S A s.heap H locs → lv_has ls 2 [(0, .ref a0)] → W p l e (headSpec vfX12_needs { frames := 6, cells := 0, slots := 0, locals := 129 }).room s m ([.ref a0, .ref a1]).toArray below meth c H locs 0 0 QQ (F0 m 13 ls []) := by
    intro v13_m_s H locs ls h  hP hD hS hl
    rw [f_X12_needs_J13] at h
    refine lv_aload_n hx hb (zat zrX12_needs_0_ok 7 rfl) rfl (lv_at hl 0 rfl) ?_
    obtain ⟨o14, eo14, h⟩ := bd_of h
    refine ck_v (wc := ([(a0, .inr (9, [g5, g6, g7, g8, g9, .ref a3, .int v13_m_s.2.1, .int v13_m_s.2.2.1, .int v13_m_s.2.2.2.1, .int v13_m_s.2.2.2.2.1, .int v13_m_s.2.2.2.2.2.1, .int v13_m_s.2.2.2.2.2.2.1, .int v13_m_s.2.2.2.2.2.2.2.1, .int v13_m_s.2.2.2.2.2.2.2.2.1, .long v13_m_s.2.2.2.2.2.2.2.2.2, g10, g11, g12, g13, g14, g15, g16, g17, g18, g19, g20, g21, g22, g23, g24])), (a3, .inl (cB25, 900, .inl v13_m_s.1))])) (wr := []) hP hD hK hS hA [0, 1] [] rfl rfl (by decide) (by decide) (by decide) (fun hPc hDc => (va_runV (As := []) (rest := []) ⟨hx, hb, hml, hown, hts⟩ (kfX12_goesOn l dC dI a0 a3 v13_m_s (g5) (g6) (g7) (g8) (g9) (g10) (g11) (g12) (g13) (g14) (g15) (g16) (g17) (g18) (g19) (g20) (g21) (g22) (g23) (g24) cB25 H.size o14 eo14) (cwV 0 hts gfX12_needs_1 rfl rfl rfl (by decide +kernel) ⟨(Nat.le_of_ble_eq_true rfl), (Nat.le_of_ble_eq_true rfl)⟩) (PV hPc (hK.sub (tys' := ((cB25, .byte) :: [])) [0] rfl) hDc hN 0 rfl rfl) rfl rfl hl.1 rfl (lv_room (Nat.le_of_ble_eq_true rfl)) (zat zrX12_needs_0_ok 8 rfl) ⟨(Nat.le_of_ble_eq_true rfl), (Nat.le_of_ble_eq_true rfl)⟩)) (fun _ H locs hw hP hD _ hS => ?_)
    obtain ⟨hP, hD⟩ := pd_mk ([(a0, .inr (9, [g5, g6, g7, g8, g9, .ref a3, .int o14.2.1, .int o14.2.2.1, .int o14.2.2.2.1, .int o14.2.2.2.2.1, .int o14.2.2.2.2.2.1, .int o14.2.2.2.2.2.2.1, .int o14.2.2.2.2.2.2.2.1, .int o14.2.2.2.2.2.2.2.2.1, .long o14.2.2.2.2.2.2.2.2.2, g10, g11, g12, g13, g14, g15, g16, g17, g18, g19, g20, g21, g22, g23, g24])), (a3, .inl (cB25, 900, .inl o14.1))]) hP hD
    obtain rfl := Option.some.inj h
    obtain ⟨hP9, hD9⟩ := pd_sub ([(a0, .inr (9, [g5, g6, g7, g8, g9, .ref a3, .int o14.2.1, .int o14.2.2.1, .int o14.2.2.2.1, .int o14.2.2.2.2.1, .int o14.2.2.2.2.2.1, .int o14.2.2.2.2.2.2.1, .int o14.2.2.2.2.2.2.2.1, .int o14.2.2.2.2.2.2.2.2.1, .long o14.2.2.2.2.2.2.2.2.2, g10, g11, g12, g13, g14, g15, g16, g17, g18, g19, g20, g21, g22, g23, g24])), (a3, .inl (cB25, 900, .inl o14.1))]) [0, 1] hP hD (by decide) rfl
    have hK9 := hK.sub (tys' := []) [] rfl
    rw [hQQ]
    exact W.vret hx hb hr (fun t ht hW => ⟨⟨(), rfl, trivial, by rw [ht]; exact hP9, va_K.moved hW.alike hK9, hD9⟩, hS.F ht⟩) hS.2.2 (zat zrX12_needs_0_ok 9 rfl)
  refine lv_if_ne (tgt := 13) hx hb (zat zrX12_needs_0_ok 3 rfl) (by decide) (fun c5 => ?_) (fun c5 => ?_)
  · have h := (if_neg c5).symm.trans h
    exact J13 m_s H _ ls h  hP hD hS (lv_sub hl [0] rfl)
  · have h := (if_pos c5).symm.trans h
    refine lv_aload_n hx hb (zat zrX12_needs_0_ok 4 rfl) rfl (lv_at hl 0 rfl) ?_
    refine lv_iconst (v := 1) hx hb (zat zrX12_needs_0_ok 5 rfl) (by decide) ?_
    obtain ⟨o10, eo10⟩ : ∃ o, o = f_X12_flaw (1 : Int32) m_s := ⟨_, rfl⟩
    have h := nm_of h o10 eo10
    refine ck_v (wc := ([(a0, .inr (9, [g5, g6, g7, g8, g9, .ref a3, .int m_s.2.1, .int m_s.2.2.1, .int m_s.2.2.2.1, .int m_s.2.2.2.2.1, .int m_s.2.2.2.2.2.1, .int m_s.2.2.2.2.2.2.1, .int m_s.2.2.2.2.2.2.2.1, .int m_s.2.2.2.2.2.2.2.2.1, .long m_s.2.2.2.2.2.2.2.2.2, g10, g11, g12, g13, g14, g15, g16, g17, g18, g19, g20, g21, g22, g23, g24])), (a3, .inl (cB25, 900, .inl m_s.1))])) (wr := []) hP hD hK hS hA [0, 1] [] rfl rfl (by decide) (by decide) (by decide) (fun hPc hDc => (va_runV (As := [.int 1]) (rest := []) ⟨hx, hb, hml, hown, hts⟩ (kfX12_flaw l dC dI a0 (1 : Int32) a3 m_s (g5) (g6) (g7) (g8) (g9) (g10) (g11) (g12) (g13) (g14) (g15) (g16) (g17) (g18) (g19) (g20) (g21) (g22) (g23) (g24) cB25 H.size o10 eo10.symm) (cwV 1 hts gfX12_needs_2 rfl rfl rfl (by decide +kernel) ⟨(Nat.le_of_ble_eq_true rfl), (Nat.le_of_ble_eq_true rfl)⟩) (PV hPc (hK.sub (tys' := ((cB25, .byte) :: [])) [0] rfl) hDc hN 0 rfl rfl) rfl rfl hl.1 rfl (lv_room (Nat.le_of_ble_eq_true rfl)) (zat zrX12_needs_0_ok 6 rfl) ⟨(Nat.le_of_ble_eq_true rfl), (Nat.le_of_ble_eq_true rfl)⟩)) (fun _ H locs hw hP hD _ hS => ?_)
    obtain ⟨hP, hD⟩ := pd_mk ([(a0, .inr (9, [g5, g6, g7, g8, g9, .ref a3, .int o10.2.1, .int o10.2.2.1, .int o10.2.2.2.1, .int o10.2.2.2.2.1, .int o10.2.2.2.2.2.1, .int o10.2.2.2.2.2.2.1, .int o10.2.2.2.2.2.2.2.1, .int o10.2.2.2.2.2.2.2.2.1, .long o10.2.2.2.2.2.2.2.2.2, g10, g11, g12, g13, g14, g15, g16, g17, g18, g19, g20, g21, g22, g23, g24])), (a3, .inl (cB25, 900, .inl o10.1))]) hP hD
    exact J13 o10 H _ ls h  hP hD hS (lv_sub hl [0] rfl)
noncomputable def zrX12_readWhole_0 : List ZR := zc 0 true (.aload_n 0) 1 (zc 1 true (.getfield 68) 3 (zc 4 true (.iconst 3) 1 (zc 5 true (.if_icmp .eq 11) 3 (zc 8 true (.aload_n 0) 1 (zc 9 true (.iconst 1) 1 (zc 10 true (.invokevirtual 111) 3 (zc 13 true (.goto 20) 3 (zc 16 true (.aload_n 0) 1 (zc 17 true (.getfield 91) 3 (zc 20 true (.iload_n 1) 1 (zc 21 true (.iload_n 2) 1 (zc 22 true (.invokestatic 115) 3 (zc 25 true (.ifCond .ne 8) 3 (zc 28 true (.aload_n 0) 1 (zc 29 true (.iconst 4) 1 (zc 30 true (.invokevirtual 111) 3 (zc 33 true (.aload_n 0) 1 (zc 34 true (.getfield 68) 3 (zc 37 true (.iconst 5) 1 (zc 38 true (.if_icmp .ne 7) 3 (zc 41 true (.iload_n 1) 1 (zc 42 true (.goto 7) 3 (zc 45 true (.aload_n 0) 1 (zc 46 true (.getfield 91) 3 (zc 49 true (.istore_n 3) 1 (zc 50 true (.aload_n 0) 1 (zc 51 true (.invokevirtual 104) 3 (zc 54 true (.iload_n 3) 1 (zc 55 true (.ireturn) 1 ([]))))))))))))))))))))))))))))))
theorem zrX12_readWhole_0_ok : zck 0 ((zby cX12_readWhole).drop 0) zrX12_readWhole_0 = true := by decide +kernel
def vfX12_readWhole : List Cond := List.cons (.code yX12_readWhole cX12_readWhole 4 (some .int)) (apW [.fieldLink RX12 68 "HookPierModel" "sort" "I", .methodLink RX12 104 yX12_goesOn, .instanceMethod yX12_goesOn, .selects RX12 yX12_goesOn yX12_goesOn, .initialized RX12, .fieldLink RX12 91 "HookPierModel" "number" "I", .methodLink RX12 115 yX12_in, .static yX12_in, .methodLink RX12 111 yX12_flaw, .instanceMethod yX12_flaw, .selects RX12 yX12_flaw yX12_flaw] (apW wsX120 (apW vfX12_goesOn (apW vfX12_in (vfX12_flaw)))))
theorem ifX12_readWhole_X12 : ∀ w ∈ wsX120, w ∈ vfX12_readWhole := fun _ h => (List.mem_cons_of_mem _ (List.mem_append_right _ (List.mem_append_left _ h)))
theorem qfX12_readWhole : Good vfX12_readWhole := gd_cons (by decide +kernel) (gd_app (gd_dec (by decide +kernel) : Good [.fieldLink RX12 68 "HookPierModel" "sort" "I", .methodLink RX12 104 yX12_goesOn, .instanceMethod yX12_goesOn, .selects RX12 yX12_goesOn yX12_goesOn, .initialized RX12, .fieldLink RX12 91 "HookPierModel" "number" "I", .methodLink RX12 115 yX12_in, .static yX12_in, .methodLink RX12 111 yX12_flaw, .instanceMethod yX12_flaw, .selects RX12 yX12_flaw yX12_flaw]) (gd_app qsX12 (gd_app qfX12_goesOn (gd_app qfX12_in qfX12_flaw))))
theorem gfX12_readWhole_0 : GoodIn vfX12_readWhole (wsV RX12 104 RX12 yX12_goesOn vfX12_goesOn) := goodIn_app (goodIn_r [.methodLink RX12 104 yX12_goesOn, .instanceMethod yX12_goesOn, .selects RX12 yX12_goesOn yX12_goesOn, .initialized RX12] [2, 3, 4, 5] rfl (by decide +kernel)) (goodIn_m (fun _ h => (List.mem_cons_of_mem _ (List.mem_append_right _ (List.mem_append_right _ (List.mem_append_left _ h))))) qfX12_goesOn)
theorem gfX12_readWhole_1 : GoodIn vfX12_readWhole (va_wsS RX12 115 yX12_in vfX12_in) := goodIn_app (goodIn_r [.methodLink RX12 115 yX12_in, .static yX12_in, .initialized RX12] [7, 8, 5] rfl (by decide +kernel)) (goodIn_m (fun _ h => (List.mem_cons_of_mem _ (List.mem_append_right _ (List.mem_append_right _ (List.mem_append_right _ (List.mem_append_left _ h)))))) qfX12_in)
theorem gfX12_readWhole_2 : GoodIn vfX12_readWhole (wsV RX12 111 RX12 yX12_flaw vfX12_flaw) := goodIn_app (goodIn_r [.methodLink RX12 111 yX12_flaw, .instanceMethod yX12_flaw, .selects RX12 yX12_flaw yX12_flaw, .initialized RX12] [9, 10, 11, 5] rfl (by decide +kernel)) (goodIn_m (fun _ h => (List.mem_cons_of_mem _ (List.mem_append_right _ (List.mem_append_right _ (List.mem_append_right _ (List.mem_append_right _ h)))))) qfX12_flaw)
set_option maxHeartbeats 2000000 in
set_option maxRecDepth 100000 in
theorem kfX12_readWhole (l : Launch) (dC : Nat → ClassId) (dI : Nat → Nat → Nat) (a0 : Nat) (k1 : Int32) (k2 : Int32) (a3 : Nat) (m_s : TX12_s) (g5 : Value) (g6 : Value) (g7 : Value) (g8 : Value) (g9 : Value) (g10 : Value) (g11 : Value) (g12 : Value) (g13 : Value) (g14 : Value) (g15 : Value) (g16 : Value) (g17 : Value) (g18 : Value) (g19 : Value) (g20 : Value) (g21 : Value) (g22 : Value) (g23 : Value) (g24 : Value) (cB25 : ClassId) (sz : Nat) (out : (Int32 × TX12_s)) (h : f_X12_readWhole k1 k2 m_s = some out) : KCi l yX12_readWhole vfX12_readWhole ({ frames := 2, cells := 0, slots := 0, locals := 43 }) (dC, dI) [.ref a0, .int k1, .int k2] sz ([(a0, .inr (9, [g5, g6, g7, g8, g9, .ref a3, .int m_s.2.1, .int m_s.2.2.1, .int m_s.2.2.2.1, .int m_s.2.2.2.2.1, .int m_s.2.2.2.2.2.1, .int m_s.2.2.2.2.2.2.1, .int m_s.2.2.2.2.2.2.2.1, .int m_s.2.2.2.2.2.2.2.2.1, .long m_s.2.2.2.2.2.2.2.2.2, g10, g11, g12, g13, g14, g15, g16, g17, g18, g19, g20, g21, g22, g23, g24])), (a3, .inl (cB25, 900, .inl m_s.1))]) ((cB25, .byte) :: []) (fun (r : Int32) _ => r = out.1) ([(a0, .inr (9, [g5, g6, g7, g8, g9, .ref a3, .int out.2.2.1, .int out.2.2.2.1, .int out.2.2.2.2.1, .int out.2.2.2.2.2.1, .int out.2.2.2.2.2.2.1, .int out.2.2.2.2.2.2.2.1, .int out.2.2.2.2.2.2.2.2.1, .int out.2.2.2.2.2.2.2.2.2.1, .long out.2.2.2.2.2.2.2.2.2.2, g10, g11, g12, g13, g14, g15, g16, g17, g18, g19, g20, g21, g22, g23, g24])), (a3, .inl (cB25, 900, .inl out.2.1))]) 0 0 := by
  refine Met.ofW (cc := cX12_readWhole) (maxL := 4) (ret := (some .int)) (by decide) rfl ?_
  intro p e s m args below meth c s₁ B0 hml hv
  obtain ⟨rfl, hsz, hP, hK, hD0, hN⟩ := hv
  have hx := B0.exec
  have hb := B0.bytes
  have hr := B0.returns
  have hts := atoms_spec (ws := vfX12_readWhole) B0.pre
  have hown : s.vm.findClass RX12 = some m.cls := findClass_of_methodNamed B0.named
  have hlocks := B0.notSynchronized
  subst hsz
  have hD := hD0.self (sz := s.heap.size)
  generalize hAe : va_A ([(a0, .inr (9, [g5, g6, g7, g8, g9, .ref a3, .int m_s.2.1, .int m_s.2.2.1, .int m_s.2.2.2.1, .int m_s.2.2.2.2.1, .int m_s.2.2.2.2.2.1, .int m_s.2.2.2.2.2.2.1, .int m_s.2.2.2.2.2.2.2.1, .int m_s.2.2.2.2.2.2.2.2.1, .long m_s.2.2.2.2.2.2.2.2.2, g10, g11, g12, g13, g14, g15, g16, g17, g18, g19, g20, g21, g22, g23, g24])), (a3, .inl (cB25, 900, .inl m_s.1))]) s.heap.size = A at hD ⊢
  have hA : ∀ q : Nat, s.heap.size ≤ q → A q := fun q h => by rw [← hAe]; exact Or.inr h
  have hS : va_S A s.heap s.heap [] := va_S.rf
  have hP : va_P (dC, dI) vwCl ([(a0, .inr (9, [g5, g6, g7, g8, g9, .ref a3, .int m_s.2.1, .int m_s.2.2.1, .int m_s.2.2.2.1, .int m_s.2.2.2.2.1, .int m_s.2.2.2.2.2.1, .int m_s.2.2.2.2.2.2.1, .int m_s.2.2.2.2.2.2.2.1, .int m_s.2.2.2.2.2.2.2.2.1, .long m_s.2.2.2.2.2.2.2.2.2, g10, g11, g12, g13, g14, g15, g16, g17, g18, g19, g20, g21, g22, g23, g24])), (a3, .inl (cB25, 900, .inl m_s.1))]) s.heap := hP
  have hl := lv_entry ([.ref a0, .int k1, .int k2]) (n := 4) (Nat.le_of_ble_eq_true rfl)
  rw [lg_entry_eq]
  generalize (lg_sl ([.ref a0, .int k1, .int k2]) ++ List.replicate (4 - (lg_sl ([.ref a0, .int k1, .int k2])).length) Slot.unset).toArray = ls at hl ⊢
  have hl : lv_has ls 4 [(0, .ref a0), (1, .int k1), (2, .int k2)] := hl
  refine W_q (fun QQ hQQ => ?_)
  rw [f_X12_readWhole] at h
  refine lv_aload_n hx hb (zat zrX12_readWhole_0_ok 0 rfl) rfl (lv_at hl 0 rfl) ?_
  refine va_get (D := (dC, dI)) (ci := 9) (v := .int m_s.2.2.2.2.1) (C := RX12) (T := TX12) (N := 30) hx hb hts ifX12_readWhole_X12 hown hK hP 0 rfl rfl 9 (by decide) (hts (.fieldLink RX12 68 "HookPierModel" "sort" "I") (List.mem_of_getElem? (i := 1) rfl)) (fun _ h9 => h9) rfl (zat zrX12_readWhole_0_ok 1 rfl) ?_
  refine lv_iconst (v := 3) hx hb (zat zrX12_readWhole_0_ok 2 rfl) (by decide) ?_
  have J33 : ∀ (v33_m_s : TX12_s) (H : Heap) (locs : List Loc) (ls : Array Slot), f_X12_readWhole_J33 k1 v33_m_s = some out → va_P (dC, dI) vwCl ([(a0, .inr (9, [g5, g6, g7, g8, g9, .ref a3, .int v33_m_s.2.1, .int v33_m_s.2.2.1, .int v33_m_s.2.2.2.1, .int v33_m_s.2.2.2.2.1, .int v33_m_s.2.2.2.2.2.1, .int v33_m_s.2.2.2.2.2.2.1, .int v33_m_s.2.2.2.2.2.2.2.1, .int v33_m_s.2.2.2.2.2.2.2.2.1, .long v33_m_s.2.2.2.2.2.2.2.2.2, g10, g11, g12, g13, g14, g15, g16, g17, g18, g19, g20, g21, g22, g23, g24])), (a3, .inl (cB25, 900, .inl v33_m_s.1))]) H → va_D A ([(a0, .inr (9, [g5, g6, g7, g8, g9, .ref a3, .int v33_m_s.2.1, .int v33_m_s.2.2.1, .int v33_m_s.2.2.2.1, .int v33_m_s.2.2.2.2.1, .int v33_m_s.2.2.2.2.2.1, .int v33_m_s.2.2.2.2.2.2.1, .int v33_m_s.2.2.2.2.2.2.2.1, .int v33_m_s.2.2.2.2.2.2.2.2.1, .long v33_m_s.2.2.2.2.2.2.2.2.2, g10, g11, g12, g13, g14, g15, g16, g17, g18, g19, g20, g21, g22, g23, g24])), (a3, .inl (cB25, 900, .inl v33_m_s.1))]) → va_S A s.heap H locs → lv_has ls 4 [(0, .ref a0), (1, .int k1)] → W p l e (headSpec vfX12_readWhole { frames := 2, cells := 0, slots := 0, locals := 43 }).room s m ([.ref a0, .int k1, .int k2]).toArray below meth c H locs 0 0 QQ (F0 m 33 ls []) := by
    intro v33_m_s H locs ls h  hP hD hS hl
    rw [f_X12_readWhole_J33] at h
    refine lv_aload_n hx hb (zat zrX12_readWhole_0_ok 17 rfl) rfl (lv_at hl 0 rfl) ?_
    refine va_get (D := (dC, dI)) (ci := 9) (v := .int v33_m_s.2.2.2.2.1) (C := RX12) (T := TX12) (N := 30) hx hb hts ifX12_readWhole_X12 hown hK hP 0 rfl rfl 9 (by decide) (hts (.fieldLink RX12 68 "HookPierModel" "sort" "I") (List.mem_of_getElem? (i := 1) rfl)) (fun _ h9 => h9) rfl (zat zrX12_readWhole_0_ok 18 rfl) ?_
    refine lv_iconst (v := 5) hx hb (zat zrX12_readWhole_0_ok 19 rfl) (by decide) ?_
    have J49 : ∀ (v49_t0 : Int32) (H : Heap) (locs : List Loc) (ls : Array Slot), f_X12_readWhole_J49 v33_m_s v49_t0 = some out → va_P (dC, dI) vwCl ([(a0, .inr (9, [g5, g6, g7, g8, g9, .ref a3, .int v33_m_s.2.1, .int v33_m_s.2.2.1, .int v33_m_s.2.2.2.1, .int v33_m_s.2.2.2.2.1, .int v33_m_s.2.2.2.2.2.1, .int v33_m_s.2.2.2.2.2.2.1, .int v33_m_s.2.2.2.2.2.2.2.1, .int v33_m_s.2.2.2.2.2.2.2.2.1, .long v33_m_s.2.2.2.2.2.2.2.2.2, g10, g11, g12, g13, g14, g15, g16, g17, g18, g19, g20, g21, g22, g23, g24])), (a3, .inl (cB25, 900, .inl v33_m_s.1))]) H → va_D A ([(a0, .inr (9, [g5, g6, g7, g8, g9, .ref a3, .int v33_m_s.2.1, .int v33_m_s.2.2.1, .int v33_m_s.2.2.2.1, .int v33_m_s.2.2.2.2.1, .int v33_m_s.2.2.2.2.2.1, .int v33_m_s.2.2.2.2.2.2.1, .int v33_m_s.2.2.2.2.2.2.2.1, .int v33_m_s.2.2.2.2.2.2.2.2.1, .long v33_m_s.2.2.2.2.2.2.2.2.2, g10, g11, g12, g13, g14, g15, g16, g17, g18, g19, g20, g21, g22, g23, g24])), (a3, .inl (cB25, 900, .inl v33_m_s.1))]) → va_S A s.heap H locs → lv_has ls 4 [(0, .ref a0)] → W p l e (headSpec vfX12_readWhole { frames := 2, cells := 0, slots := 0, locals := 43 }).room s m ([.ref a0, .int k1, .int k2]).toArray below meth c H locs 0 0 QQ (F0 m 49 ls [.int v49_t0]) := by
      intro v49_t0 H locs ls h  hP hD hS hl
      rw [f_X12_readWhole_J49] at h
      refine lv_istore_n (lv' := [(3, .int v49_t0), (0, .ref a0)]) hx hb (zat zrX12_readWhole_0_ok 25 rfl) rfl hl (by decide) rfl (fun ls hl => ?_)
      refine lv_aload_n hx hb (zat zrX12_readWhole_0_ok 26 rfl) rfl (lv_at hl 1 rfl) ?_
      obtain ⟨o51, eo51, h⟩ := bd_of h
      refine ck_v (wc := ([(a0, .inr (9, [g5, g6, g7, g8, g9, .ref a3, .int v33_m_s.2.1, .int v33_m_s.2.2.1, .int v33_m_s.2.2.2.1, .int v33_m_s.2.2.2.2.1, .int v33_m_s.2.2.2.2.2.1, .int v33_m_s.2.2.2.2.2.2.1, .int v33_m_s.2.2.2.2.2.2.2.1, .int v33_m_s.2.2.2.2.2.2.2.2.1, .long v33_m_s.2.2.2.2.2.2.2.2.2, g10, g11, g12, g13, g14, g15, g16, g17, g18, g19, g20, g21, g22, g23, g24])), (a3, .inl (cB25, 900, .inl v33_m_s.1))])) (wr := []) hP hD hK hS hA [0, 1] [] rfl rfl (by decide) (by decide) (by decide) (fun hPc hDc => (va_runV (As := []) (rest := []) ⟨hx, hb, hml, hown, hts⟩ (kfX12_goesOn l dC dI a0 a3 v33_m_s (g5) (g6) (g7) (g8) (g9) (g10) (g11) (g12) (g13) (g14) (g15) (g16) (g17) (g18) (g19) (g20) (g21) (g22) (g23) (g24) cB25 H.size o51 eo51) (cwV 0 hts gfX12_readWhole_0 rfl rfl rfl (by decide +kernel) ⟨(Nat.le_of_ble_eq_true rfl), (Nat.le_of_ble_eq_true rfl)⟩) (PV hPc (hK.sub (tys' := ((cB25, .byte) :: [])) [0] rfl) hDc hN 0 rfl rfl) rfl rfl hl.1 rfl (lv_room (Nat.le_of_ble_eq_true rfl)) (zat zrX12_readWhole_0_ok 27 rfl) ⟨(Nat.le_of_ble_eq_true rfl), (Nat.le_of_ble_eq_true rfl)⟩)) (fun _ H locs hw hP hD _ hS => ?_)
      obtain ⟨hP, hD⟩ := pd_mk ([(a0, .inr (9, [g5, g6, g7, g8, g9, .ref a3, .int o51.2.1, .int o51.2.2.1, .int o51.2.2.2.1, .int o51.2.2.2.2.1, .int o51.2.2.2.2.2.1, .int o51.2.2.2.2.2.2.1, .int o51.2.2.2.2.2.2.2.1, .int o51.2.2.2.2.2.2.2.2.1, .long o51.2.2.2.2.2.2.2.2.2, g10, g11, g12, g13, g14, g15, g16, g17, g18, g19, g20, g21, g22, g23, g24])), (a3, .inl (cB25, 900, .inl o51.1))]) hP hD
      refine lv_iload_n hx hb (zat zrX12_readWhole_0_ok 28 rfl) rfl (lv_at hl 0 rfl) ?_
      obtain rfl := Option.some.inj h
      obtain ⟨hP9, hD9⟩ := pd_sub ([(a0, .inr (9, [g5, g6, g7, g8, g9, .ref a3, .int o51.2.1, .int o51.2.2.1, .int o51.2.2.2.1, .int o51.2.2.2.2.1, .int o51.2.2.2.2.2.1, .int o51.2.2.2.2.2.2.1, .int o51.2.2.2.2.2.2.2.1, .int o51.2.2.2.2.2.2.2.2.1, .long o51.2.2.2.2.2.2.2.2.2, g10, g11, g12, g13, g14, g15, g16, g17, g18, g19, g20, g21, g22, g23, g24])), (a3, .inl (cB25, 900, .inl o51.1))]) [0, 1] hP hD (by decide) rfl
      have hK9 := hK.sub (tys' := []) [] rfl
      rw [hQQ]
      exact W.iret (v := v49_t0) hx hb hr (fun t ht hW => ⟨⟨v49_t0, (), rfl, rfl, by rw [ht]; exact hP9, va_K.moved hW.alike hK9, hD9⟩, hS.F ht⟩) hS.2.2 (zat zrX12_readWhole_0_ok 29 rfl)
    refine lv_icmp_ne (tgt := 45) hx hb (zat zrX12_readWhole_0_ok 20 rfl) (by decide) (fun c38 => ?_) (fun c38 => ?_)
    · have h := (if_neg c38).symm.trans h
      refine lv_aload_n hx hb (zat zrX12_readWhole_0_ok 23 rfl) rfl (lv_at hl 0 rfl) ?_
      refine va_get (D := (dC, dI)) (ci := 9) (v := .int v33_m_s.2.2.2.2.2.2.1) (C := RX12) (T := TX12) (N := 30) hx hb hts ifX12_readWhole_X12 hown hK hP 0 rfl rfl 11 (by decide) (hts (.fieldLink RX12 91 "HookPierModel" "number" "I") (List.mem_of_getElem? (i := 6) rfl)) (fun _ h9 => h9) rfl (zat zrX12_readWhole_0_ok 24 rfl) ?_
      exact J49 v33_m_s.2.2.2.2.2.2.1 H _ ls h  hP hD hS (lv_sub hl [0] rfl)
    · have h := (if_pos c38).symm.trans h
      refine lv_iload_n hx hb (zat zrX12_readWhole_0_ok 21 rfl) rfl (lv_at hl 1 rfl) ?_
      refine lv_goto (tgt := 49) hx hb (zat zrX12_readWhole_0_ok 22 rfl) (by decide) ?_
      exact J49 k1 H _ ls h  hP hD hS (lv_sub hl [0] rfl)
  refine lv_icmp_eq (tgt := 16) hx hb (zat zrX12_readWhole_0_ok 3 rfl) (by decide) (fun c5 => ?_) (fun c5 => ?_)
  · have h := (if_pos c5).symm.trans h
    refine lv_aload_n hx hb (zat zrX12_readWhole_0_ok 8 rfl) rfl (lv_at hl 0 rfl) ?_
    refine va_get (D := (dC, dI)) (ci := 9) (v := .int m_s.2.2.2.2.2.2.1) (C := RX12) (T := TX12) (N := 30) hx hb hts ifX12_readWhole_X12 hown hK hP 0 rfl rfl 11 (by decide) (hts (.fieldLink RX12 91 "HookPierModel" "number" "I") (List.mem_of_getElem? (i := 6) rfl)) (fun _ h9 => h9) rfl (zat zrX12_readWhole_0_ok 9 rfl) ?_
    refine lv_iload_n hx hb (zat zrX12_readWhole_0_ok 10 rfl) rfl (lv_at hl 1 rfl) ?_
    refine lv_iload_n hx hb (zat zrX12_readWhole_0_ok 11 rfl) rfl (lv_at hl 2 rfl) ?_
    obtain ⟨o22, eo22⟩ : ∃ o, o = f_X12_in m_s.2.2.2.2.2.2.1 k1 k2 := ⟨_, rfl⟩
    have h := nm_of h o22 eo22
    refine ck_i (wc := []) (wr := ([(a0, .inr (9, [g5, g6, g7, g8, g9, .ref a3, .int m_s.2.1, .int m_s.2.2.1, .int m_s.2.2.2.1, .int m_s.2.2.2.2.1, .int m_s.2.2.2.2.2.1, .int m_s.2.2.2.2.2.2.1, .int m_s.2.2.2.2.2.2.2.1, .int m_s.2.2.2.2.2.2.2.2.1, .long m_s.2.2.2.2.2.2.2.2.2, g10, g11, g12, g13, g14, g15, g16, g17, g18, g19, g20, g21, g22, g23, g24])), (a3, .inl (cB25, 900, .inl m_s.1))])) hP hD hK hS hA [] [0, 1] rfl rfl (by decide) (by decide) (by decide) (fun hPc hDc => (va_runS (As := [.int m_s.2.2.2.2.2.2.1, .int k1, .int k2]) (rest := []) ⟨hx, hb, hml, hown, hts⟩ (kfX12_in l dC dI m_s.2.2.2.2.2.2.1 k1 k2 s.heap.size o22 eo22.symm) (va_cwS 3 hts gfX12_readWhole_1 rfl rfl rfl (by decide +kernel) ⟨(Nat.le_of_ble_eq_true rfl), (Nat.le_of_ble_eq_true rfl)⟩) (PS hPc (hK.sub (tys' := ([])) [] rfl) hDc hN) rfl rfl hl.1 rfl (lv_room (Nat.le_of_ble_eq_true rfl)) (zat zrX12_readWhole_0_ok 12 rfl) ⟨(Nat.le_of_ble_eq_true rfl), (Nat.le_of_ble_eq_true rfl)⟩)) (fun r22 _ H locs hw hP hD _ hS => ?_)
    obtain ⟨hw, br22⟩ := hw
    obtain rfl := hw.symm
    obtain ⟨hP, hD⟩ := pd_mk ([(a0, .inr (9, [g5, g6, g7, g8, g9, .ref a3, .int m_s.2.1, .int m_s.2.2.1, .int m_s.2.2.2.1, .int m_s.2.2.2.2.1, .int m_s.2.2.2.2.2.1, .int m_s.2.2.2.2.2.2.1, .int m_s.2.2.2.2.2.2.2.1, .int m_s.2.2.2.2.2.2.2.2.1, .long m_s.2.2.2.2.2.2.2.2.2, g10, g11, g12, g13, g14, g15, g16, g17, g18, g19, g20, g21, g22, g23, g24])), (a3, .inl (cB25, 900, .inl m_s.1))]) hP hD
    refine lv_if_ne (tgt := 33) hx hb (zat zrX12_readWhole_0_ok 13 rfl) (by decide) (fun c25 => ?_) (fun c25 => ?_)
    · have h := (if_neg c25).symm.trans h
      exact J33 m_s H _ ls h  hP hD hS (lv_sub hl [0, 1] rfl)
    · have h := (if_pos c25).symm.trans h
      refine lv_aload_n hx hb (zat zrX12_readWhole_0_ok 14 rfl) rfl (lv_at hl 0 rfl) ?_
      refine lv_iconst (v := 4) hx hb (zat zrX12_readWhole_0_ok 15 rfl) (by decide) ?_
      obtain ⟨o30, eo30⟩ : ∃ o, o = f_X12_flaw (4 : Int32) m_s := ⟨_, rfl⟩
      have h := nm_of h o30 eo30
      refine ck_v (wc := ([(a0, .inr (9, [g5, g6, g7, g8, g9, .ref a3, .int m_s.2.1, .int m_s.2.2.1, .int m_s.2.2.2.1, .int m_s.2.2.2.2.1, .int m_s.2.2.2.2.2.1, .int m_s.2.2.2.2.2.2.1, .int m_s.2.2.2.2.2.2.2.1, .int m_s.2.2.2.2.2.2.2.2.1, .long m_s.2.2.2.2.2.2.2.2.2, g10, g11, g12, g13, g14, g15, g16, g17, g18, g19, g20, g21, g22, g23, g24])), (a3, .inl (cB25, 900, .inl m_s.1))])) (wr := []) hP hD hK hS hA [0, 1] [] rfl rfl (by decide) (by decide) (by decide) (fun hPc hDc => (va_runV (As := [.int 4]) (rest := []) ⟨hx, hb, hml, hown, hts⟩ (kfX12_flaw l dC dI a0 (4 : Int32) a3 m_s (g5) (g6) (g7) (g8) (g9) (g10) (g11) (g12) (g13) (g14) (g15) (g16) (g17) (g18) (g19) (g20) (g21) (g22) (g23) (g24) cB25 H.size o30 eo30.symm) (cwV 1 hts gfX12_readWhole_2 rfl rfl rfl (by decide +kernel) ⟨(Nat.le_of_ble_eq_true rfl), (Nat.le_of_ble_eq_true rfl)⟩) (PV hPc (hK.sub (tys' := ((cB25, .byte) :: [])) [0] rfl) hDc hN 0 rfl rfl) rfl rfl hl.1 rfl (lv_room (Nat.le_of_ble_eq_true rfl)) (zat zrX12_readWhole_0_ok 16 rfl) ⟨(Nat.le_of_ble_eq_true rfl), (Nat.le_of_ble_eq_true rfl)⟩)) (fun _ H locs hw hP hD _ hS => ?_)
      obtain ⟨hP, hD⟩ := pd_mk ([(a0, .inr (9, [g5, g6, g7, g8, g9, .ref a3, .int o30.2.1, .int o30.2.2.1, .int o30.2.2.2.1, .int o30.2.2.2.2.1, .int o30.2.2.2.2.2.1, .int o30.2.2.2.2.2.2.1, .int o30.2.2.2.2.2.2.2.1, .int o30.2.2.2.2.2.2.2.2.1, .long o30.2.2.2.2.2.2.2.2.2, g10, g11, g12, g13, g14, g15, g16, g17, g18, g19, g20, g21, g22, g23, g24])), (a3, .inl (cB25, 900, .inl o30.1))]) hP hD
      exact J33 o30 H _ ls h  hP hD hS (lv_sub hl [0, 1] rfl)
  · have h := (if_neg c5).symm.trans h
    refine lv_aload_n hx hb (zat zrX12_readWhole_0_ok 4 rfl) rfl (lv_at hl 0 rfl) ?_
    refine lv_iconst (v := 1) hx hb (zat zrX12_readWhole_0_ok 5 rfl) (by decide) ?_
    obtain ⟨o10, eo10⟩ : ∃ o, o = f_X12_flaw (1 : Int32) m_s := ⟨_, rfl⟩
    have h := nm_of h o10 eo10
    refine ck_v (wc := ([(a0, .inr (9, [g5, g6, g7, g8, g9, .ref a3, .int m_s.2.1, .int m_s.2.2.1, .int m_s.2.2.2.1, .int m_s.2.2.2.2.1, .int m_s.2.2.2.2.2.1, .int m_s.2.2.2.2.2.2.1, .int m_s.2.2.2.2.2.2.2.1, .int m_s.2.2.2.2.2.2.2.2.1, .long m_s.2.2.2.2.2.2.2.2.2, g10, g11, g12, g13, g14, g15, g16, g17, g18, g19, g20, g21, g22, g23, g24])), (a3, .inl (cB25, 900, .inl m_s.1))])) (wr := []) hP hD hK hS hA [0, 1] [] rfl rfl (by decide) (by decide) (by decide) (fun hPc hDc => (va_runV (As := [.int 1]) (rest := []) ⟨hx, hb, hml, hown, hts⟩ (kfX12_flaw l dC dI a0 (1 : Int32) a3 m_s (g5) (g6) (g7) (g8) (g9) (g10) (g11) (g12) (g13) (g14) (g15) (g16) (g17) (g18) (g19) (g20) (g21) (g22) (g23) (g24) cB25 s.heap.size o10 eo10.symm) (cwV 1 hts gfX12_readWhole_2 rfl rfl rfl (by decide +kernel) ⟨(Nat.le_of_ble_eq_true rfl), (Nat.le_of_ble_eq_true rfl)⟩) (PV hPc (hK.sub (tys' := ((cB25, .byte) :: [])) [0] rfl) hDc hN 0 rfl rfl) rfl rfl hl.1 rfl (lv_room (Nat.le_of_ble_eq_true rfl)) (zat zrX12_readWhole_0_ok 6 rfl) ⟨(Nat.le_of_ble_eq_true rfl), (Nat.le_of_ble_eq_true rfl)⟩)) (fun _ H locs hw hP hD _ hS => ?_)
    obtain ⟨hP, hD⟩ := pd_mk ([(a0, .inr (9, [g5, g6, g7, g8, g9, .ref a3, .int o10.2.1, .int o10.2.2.1, .int o10.2.2.2.1, .int o10.2.2.2.2.1, .int o10.2.2.2.2.2.1, .int o10.2.2.2.2.2.2.1, .int o10.2.2.2.2.2.2.2.1, .int o10.2.2.2.2.2.2.2.2.1, .long o10.2.2.2.2.2.2.2.2.2, g10, g11, g12, g13, g14, g15, g16, g17, g18, g19, g20, g21, g22, g23, g24])), (a3, .inl (cB25, 900, .inl o10.1))]) hP hD
    refine lv_goto (tgt := 33) hx hb (zat zrX12_readWhole_0_ok 7 rfl) (by decide) ?_
    exact J33 o10 H _ ls h  hP hD hS (lv_sub hl [0, 1] rfl)
noncomputable def zrX12_readPart_0 : List ZR := zc 0 true (.aload_n 0) 1 (zc 1 true (.aload_n 1) 1 (zc 2 true (.invokevirtual 119) 3 (zc 5 true (.aload_n 0) 1 (zc 6 true (.iload_n 2) 1 (zc 7 true (.iload_n 3) 1 (zc 8 true (.invokevirtual 123) 3 (zc 11 true (.ireturn) 1 ([]))))))))
theorem zrX12_readPart_0_ok : zck 0 ((zby cX12_readPart).drop 0) zrX12_readPart_0 = true := by decide +kernel
def vfX12_readPart : List Cond := List.cons (.code yX12_readPart cX12_readPart 4 (some .int)) (apW [.methodLink RX12 119 yX12_needs, .instanceMethod yX12_needs, .selects RX12 yX12_needs yX12_needs, .initialized RX12, .methodLink RX12 123 yX12_readWhole, .instanceMethod yX12_readWhole, .selects RX12 yX12_readWhole yX12_readWhole] (apW vfX12_needs (vfX12_readWhole)))
theorem qfX12_readPart : Good vfX12_readPart := gd_cons (by decide +kernel) (gd_app (gd_dec (by decide +kernel) : Good [.methodLink RX12 119 yX12_needs, .instanceMethod yX12_needs, .selects RX12 yX12_needs yX12_needs, .initialized RX12, .methodLink RX12 123 yX12_readWhole, .instanceMethod yX12_readWhole, .selects RX12 yX12_readWhole yX12_readWhole]) (gd_app qfX12_needs qfX12_readWhole))
theorem gfX12_readPart_0 : GoodIn vfX12_readPart (wsV RX12 119 RX12 yX12_needs vfX12_needs) := goodIn_app (goodIn_r [.methodLink RX12 119 yX12_needs, .instanceMethod yX12_needs, .selects RX12 yX12_needs yX12_needs, .initialized RX12] [1, 2, 3, 4] rfl (by decide +kernel)) (goodIn_m (fun _ h => (List.mem_cons_of_mem _ (List.mem_append_right _ (List.mem_append_left _ h)))) qfX12_needs)
theorem gfX12_readPart_1 : GoodIn vfX12_readPart (wsV RX12 123 RX12 yX12_readWhole vfX12_readWhole) := goodIn_app (goodIn_r [.methodLink RX12 123 yX12_readWhole, .instanceMethod yX12_readWhole, .selects RX12 yX12_readWhole yX12_readWhole, .initialized RX12] [5, 6, 7, 4] rfl (by decide +kernel)) (goodIn_m (fun _ h => (List.mem_cons_of_mem _ (List.mem_append_right _ (List.mem_append_right _ h)))) qfX12_readWhole)
set_option maxHeartbeats 2000000 in
set_option maxRecDepth 100000 in
theorem kfX12_readPart (l : Launch) (dC : Nat → ClassId) (dI : Nat → Nat → Nat) (a0 : Nat) (a1 : Nat) (w1 : List Int32) (k2 : Int32) (k3 : Int32) (a5 : Nat) (m_s : TX12_s) (g7 : Value) (g8 : Value) (g9 : Value) (g10 : Value) (g11 : Value) (g12 : Value) (g13 : Value) (g14 : Value) (g15 : Value) (g16 : Value) (g17 : Value) (g18 : Value) (g19 : Value) (g20 : Value) (g21 : Value) (g22 : Value) (g23 : Value) (g24 : Value) (g25 : Value) (g26 : Value) (cB27 : ClassId) (sz : Nat) (B : Nat) (out : (Int32 × TX12_s)) (h : f_X12_readPart w1 k2 k3 m_s = some out) : Met l yX12_readPart vfX12_readPart ({ frames := 7, cells := 0, slots := 0, locals := 150 }) (PF (dC, dI) B [.ref a0, .ref a1, .int k2, .int k3] sz ([(a0, .inr (9, [g7, g8, g9, g10, g11, .ref a5, .int m_s.2.1, .int m_s.2.2.1, .int m_s.2.2.2.1, .int m_s.2.2.2.2.1, .int m_s.2.2.2.2.2.1, .int m_s.2.2.2.2.2.2.1, .int m_s.2.2.2.2.2.2.2.1, .int m_s.2.2.2.2.2.2.2.2.1, .long m_s.2.2.2.2.2.2.2.2.2, g12, g13, g14, g15, g16, g17, g18, g19, g20, g21, g22, g23, g24, g25, g26])), (a5, .inl (cB27, 900, .inl m_s.1))]) ((cB27, .byte) :: []) [(a1, w1)]) (va_Qi (S := Unit) (fun (r : Int32) _ => r = out.1) (fun _ t => BC (dC, dI) (va_A ([(a0, .inr (9, [g7, g8, g9, g10, g11, .ref a5, .int m_s.2.1, .int m_s.2.2.1, .int m_s.2.2.2.1, .int m_s.2.2.2.2.1, .int m_s.2.2.2.2.2.1, .int m_s.2.2.2.2.2.2.1, .int m_s.2.2.2.2.2.2.2.1, .int m_s.2.2.2.2.2.2.2.2.1, .long m_s.2.2.2.2.2.2.2.2.2, g12, g13, g14, g15, g16, g17, g18, g19, g20, g21, g22, g23, g24, g25, g26])), (a5, .inl (cB27, 900, .inl m_s.1))]) sz) ([(a0, .inr (9, [g7, g8, g9, g10, g11, .ref a5, .int out.2.2.1, .int out.2.2.2.1, .int out.2.2.2.2.1, .int out.2.2.2.2.2.1, .int out.2.2.2.2.2.2.1, .int out.2.2.2.2.2.2.2.1, .int out.2.2.2.2.2.2.2.2.1, .int out.2.2.2.2.2.2.2.2.2.1, .long out.2.2.2.2.2.2.2.2.2.2, g12, g13, g14, g15, g16, g17, g18, g19, g20, g21, g22, g23, g24, g25, g26])), (a5, .inl (cB27, 900, .inl out.2.1))]) [] t) (va_A ([(a0, .inr (9, [g7, g8, g9, g10, g11, .ref a5, .int m_s.2.1, .int m_s.2.2.1, .int m_s.2.2.2.1, .int m_s.2.2.2.2.1, .int m_s.2.2.2.2.2.1, .int m_s.2.2.2.2.2.2.1, .int m_s.2.2.2.2.2.2.2.1, .int m_s.2.2.2.2.2.2.2.2.1, .long m_s.2.2.2.2.2.2.2.2.2, g12, g13, g14, g15, g16, g17, g18, g19, g20, g21, g22, g23, g24, g25, g26])), (a5, .inl (cB27, 900, .inl m_s.1))]) sz)) 0 0 (va_A ([(a0, .inr (9, [g7, g8, g9, g10, g11, .ref a5, .int m_s.2.1, .int m_s.2.2.1, .int m_s.2.2.2.1, .int m_s.2.2.2.2.1, .int m_s.2.2.2.2.2.1, .int m_s.2.2.2.2.2.2.1, .int m_s.2.2.2.2.2.2.2.1, .int m_s.2.2.2.2.2.2.2.2.1, .long m_s.2.2.2.2.2.2.2.2.2, g12, g13, g14, g15, g16, g17, g18, g19, g20, g21, g22, g23, g24, g25, g26])), (a5, .inl (cB27, 900, .inl m_s.1))]) sz) := by
  refine Met.ofW (cc := cX12_readPart) (maxL := 4) (ret := (some .int)) (by decide) rfl ?_
  intro p e s m args below meth c s₁ B0 hml hv
  obtain ⟨rfl, hsz, hP, hK, hD0, hN, hBs, hE, hX⟩ := hv
  have hBA := PF_reg hD0 hBs
  have xs1 : S1 B a1 w1 s := hX (a1, w1) (List.mem_of_getElem? (i := 0) rfl)
  have hx := B0.exec
  have hb := B0.bytes
  have hr := B0.returns
  have hts := atoms_spec (ws := vfX12_readPart) B0.pre
  have hown : s.vm.findClass RX12 = some m.cls := findClass_of_methodNamed B0.named
  have hlocks := B0.notSynchronized
  subst hsz
  have hD := hD0.self (sz := s.heap.size)
  generalize hAe : va_A ([(a0, .inr (9, [g7, g8, g9, g10, g11, .ref a5, .int m_s.2.1, .int m_s.2.2.1, .int m_s.2.2.2.1, .int m_s.2.2.2.2.1, .int m_s.2.2.2.2.2.1, .int m_s.2.2.2.2.2.2.1, .int m_s.2.2.2.2.2.2.2.1, .int m_s.2.2.2.2.2.2.2.2.1, .long m_s.2.2.2.2.2.2.2.2.2, g12, g13, g14, g15, g16, g17, g18, g19, g20, g21, g22, g23, g24, g25, g26])), (a5, .inl (cB27, 900, .inl m_s.1))]) s.heap.size = A at hD hBA ⊢
  have hA : ∀ q : Nat, s.heap.size ≤ q → A q := fun q h => by rw [← hAe]; exact Or.inr h
  have hS : va_S A s.heap s.heap [] := va_S.rf
  have hP : va_P (dC, dI) vwCl ([(a0, .inr (9, [g7, g8, g9, g10, g11, .ref a5, .int m_s.2.1, .int m_s.2.2.1, .int m_s.2.2.2.1, .int m_s.2.2.2.2.1, .int m_s.2.2.2.2.2.1, .int m_s.2.2.2.2.2.2.1, .int m_s.2.2.2.2.2.2.2.1, .int m_s.2.2.2.2.2.2.2.2.1, .long m_s.2.2.2.2.2.2.2.2.2, g12, g13, g14, g15, g16, g17, g18, g19, g20, g21, g22, g23, g24, g25, g26])), (a5, .inl (cB27, 900, .inl m_s.1))]) s.heap := hP
  have hl := lv_entry ([.ref a0, .ref a1, .int k2, .int k3]) (n := 4) (Nat.le_of_ble_eq_true rfl)
  rw [lg_entry_eq]
  generalize (lg_sl ([.ref a0, .ref a1, .int k2, .int k3]) ++ List.replicate (4 - (lg_sl ([.ref a0, .ref a1, .int k2, .int k3])).length) Slot.unset).toArray = ls at hl ⊢
  have hl : lv_has ls 4 [(0, .ref a0), (1, .ref a1), (2, .int k2), (3, .int k3)] := hl
  have hB : RB B s A := ⟨hBA, hBs⟩
  refine W_q (fun QQ hQQ => ?_)
  rw [f_X12_readPart] at h
  refine lv_aload_n hx hb (zat zrX12_readPart_0_ok 0 rfl) rfl (lv_at hl 0 rfl) ?_
  refine lv_aload_n hx hb (zat zrX12_readPart_0_ok 1 rfl) rfl (lv_at hl 1 rfl) ?_
  obtain ⟨o2, eo2, h⟩ := bd_of h
  refine ck_v (wc := ([(a0, .inr (9, [g7, g8, g9, g10, g11, .ref a5, .int m_s.2.1, .int m_s.2.2.1, .int m_s.2.2.2.1, .int m_s.2.2.2.2.1, .int m_s.2.2.2.2.2.1, .int m_s.2.2.2.2.2.2.1, .int m_s.2.2.2.2.2.2.2.1, .int m_s.2.2.2.2.2.2.2.2.1, .long m_s.2.2.2.2.2.2.2.2.2, g12, g13, g14, g15, g16, g17, g18, g19, g20, g21, g22, g23, g24, g25, g26])), (a5, .inl (cB27, 900, .inl m_s.1))])) (wr := []) hP hD hK hS hA [0, 1] [] rfl rfl (by decide) (by decide) (by decide) (fun hPc hDc => (va_runV (As := [.ref a1]) (rest := []) ⟨hx, hb, hml, hown, hts⟩ (kfX12_needs l dC dI a0 a1 w1 a5 m_s (g7) (g8) (g9) (g10) (g11) (g12) (g13) (g14) (g15) (g16) (g17) (g18) (g19) (g20) (g21) (g22) (g23) (g24) (g25) (g26) cB27 s.heap.size B o2 eo2) (cwV 1 hts gfX12_readPart_0 rfl rfl rfl (by decide +kernel) ⟨(Nat.le_of_ble_eq_true rfl), (Nat.le_of_ble_eq_true rfl)⟩) (PVF hPc (hK.sub (tys' := ((cB27, .byte) :: [])) [0] rfl) hDc hN hS hB hE (S1c xs1 S1n) 0 rfl rfl) rfl rfl hl.1 rfl (lv_room (Nat.le_of_ble_eq_true rfl)) (zat zrX12_readPart_0_ok 2 rfl) ⟨(Nat.le_of_ble_eq_true rfl), (Nat.le_of_ble_eq_true rfl)⟩)) (fun _ H locs hw hP hD _ hS => ?_)
  obtain ⟨hP, hD⟩ := pd_mk ([(a0, .inr (9, [g7, g8, g9, g10, g11, .ref a5, .int o2.2.1, .int o2.2.2.1, .int o2.2.2.2.1, .int o2.2.2.2.2.1, .int o2.2.2.2.2.2.1, .int o2.2.2.2.2.2.2.1, .int o2.2.2.2.2.2.2.2.1, .int o2.2.2.2.2.2.2.2.2.1, .long o2.2.2.2.2.2.2.2.2.2, g12, g13, g14, g15, g16, g17, g18, g19, g20, g21, g22, g23, g24, g25, g26])), (a5, .inl (cB27, 900, .inl o2.1))]) hP hD
  refine lv_aload_n hx hb (zat zrX12_readPart_0_ok 3 rfl) rfl (lv_at hl 0 rfl) ?_
  refine lv_iload_n hx hb (zat zrX12_readPart_0_ok 4 rfl) rfl (lv_at hl 2 rfl) ?_
  refine lv_iload_n hx hb (zat zrX12_readPart_0_ok 5 rfl) rfl (lv_at hl 3 rfl) ?_
  obtain ⟨o8, eo8, h⟩ := bd_of h
  refine ck_i (wc := ([(a0, .inr (9, [g7, g8, g9, g10, g11, .ref a5, .int o2.2.1, .int o2.2.2.1, .int o2.2.2.2.1, .int o2.2.2.2.2.1, .int o2.2.2.2.2.2.1, .int o2.2.2.2.2.2.2.1, .int o2.2.2.2.2.2.2.2.1, .int o2.2.2.2.2.2.2.2.2.1, .long o2.2.2.2.2.2.2.2.2.2, g12, g13, g14, g15, g16, g17, g18, g19, g20, g21, g22, g23, g24, g25, g26])), (a5, .inl (cB27, 900, .inl o2.1))])) (wr := []) hP hD hK hS hA [0, 1] [] rfl rfl (by decide) (by decide) (by decide) (fun hPc hDc => (va_runV (As := [.int k2, .int k3]) (rest := []) ⟨hx, hb, hml, hown, hts⟩ (kfX12_readWhole l dC dI a0 k2 k3 a5 o2 (g7) (g8) (g9) (g10) (g11) (g12) (g13) (g14) (g15) (g16) (g17) (g18) (g19) (g20) (g21) (g22) (g23) (g24) (g25) (g26) cB27 H.size o8 eo8) (cwV 2 hts gfX12_readPart_1 rfl rfl rfl (by decide +kernel) ⟨(Nat.le_of_ble_eq_true rfl), (Nat.le_of_ble_eq_true rfl)⟩) (PV hPc (hK.sub (tys' := ((cB27, .byte) :: [])) [0] rfl) hDc hN 0 rfl rfl) rfl rfl hl.1 rfl (lv_room (Nat.le_of_ble_eq_true rfl)) (zat zrX12_readPart_0_ok 6 rfl) ⟨(Nat.le_of_ble_eq_true rfl), (Nat.le_of_ble_eq_true rfl)⟩)) (fun r8 _ H locs hw hP hD _ hS => ?_)
  obtain rfl := hw
  obtain ⟨hP, hD⟩ := pd_mk ([(a0, .inr (9, [g7, g8, g9, g10, g11, .ref a5, .int o8.2.2.1, .int o8.2.2.2.1, .int o8.2.2.2.2.1, .int o8.2.2.2.2.2.1, .int o8.2.2.2.2.2.2.1, .int o8.2.2.2.2.2.2.2.1, .int o8.2.2.2.2.2.2.2.2.1, .int o8.2.2.2.2.2.2.2.2.2.1, .long o8.2.2.2.2.2.2.2.2.2.2, g12, g13, g14, g15, g16, g17, g18, g19, g20, g21, g22, g23, g24, g25, g26])), (a5, .inl (cB27, 900, .inl o8.2.1))]) hP hD
  obtain rfl := Option.some.inj h
  obtain ⟨hP9, hD9⟩ := pd_sub ([(a0, .inr (9, [g7, g8, g9, g10, g11, .ref a5, .int o8.2.2.1, .int o8.2.2.2.1, .int o8.2.2.2.2.1, .int o8.2.2.2.2.2.1, .int o8.2.2.2.2.2.2.1, .int o8.2.2.2.2.2.2.2.1, .int o8.2.2.2.2.2.2.2.2.1, .int o8.2.2.2.2.2.2.2.2.2.1, .long o8.2.2.2.2.2.2.2.2.2.2, g12, g13, g14, g15, g16, g17, g18, g19, g20, g21, g22, g23, g24, g25, g26])), (a5, .inl (cB27, 900, .inl o8.2.1))]) [0, 1] hP hD (by decide) rfl
  have hK9 := hK.sub (tys' := []) [] rfl
  rw [hQQ]
  exact W.iret (v := o8.1) hx hb hr (fun t ht hW => ⟨⟨o8.1, (), rfl, rfl, by rw [ht]; exact hP9, va_K.moved hW.alike hK9, hD9⟩, hS.F ht⟩) hS.2.2 (zat zrX12_readPart_0_ok 7 rfl)
