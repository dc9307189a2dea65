theorem dX7_isLetter_0 : decode cX7_isLetter 0 = .ok (.aload_n 0, 1) := by decide +kernel
theorem dX7_isLetter_1 : decode cX7_isLetter 1 = .ok (.getfield 9, 3) := by decide +kernel
theorem dX7_isLetter_11 : decode cX7_isLetter 11 = .ok (.aload_n 0, 1) := by decide +kernel
theorem dX7_isLetter_12 : decode cX7_isLetter 12 = .ok (.getfield 9, 3) := by decide +kernel
theorem dX7_isLetter_15 : decode cX7_isLetter 15 = .ok (.iload_n 1, 1) := by decide +kernel
theorem dX7_isLetter_16 : decode cX7_isLetter 16 = .ok (.baload, 1) := by decide +kernel
theorem dX7_isLetter_17 : decode cX7_isLetter 17 = .ok (.bipush 122, 2) := by decide +kernel
theorem dX7_isLetter_19 : decode cX7_isLetter 19 = .ok (.if_icmp .gt 7, 3) := by decide +kernel
theorem dX7_isLetter_22 : decode cX7_isLetter 22 = .ok (.iconst 1, 1) := by decide +kernel
theorem dX7_isLetter_23 : decode cX7_isLetter 23 = .ok (.goto 4, 3) := by decide +kernel
theorem dX7_isLetter_26 : decode cX7_isLetter 26 = .ok (.iconst 0, 1) := by decide +kernel
theorem dX7_isLetter_27 : decode cX7_isLetter 27 = .ok (.ireturn, 1) := by decide +kernel
theorem dX7_isLetter_4 : decode cX7_isLetter 4 = .ok (.iload_n 1, 1) := by decide +kernel
theorem dX7_isLetter_5 : decode cX7_isLetter 5 = .ok (.baload, 1) := by decide +kernel
theorem dX7_isLetter_6 : decode cX7_isLetter 6 = .ok (.bipush 97, 2) := by decide +kernel
theorem dX7_isLetter_8 : decode cX7_isLetter 8 = .ok (.if_icmp .lt 18, 3) := by decide +kernel
def vfX7_isLetter : List Cond := List.cons (.code yX7_isLetter cX7_isLetter 2 (some .boolean)) (apW [.fieldLink RX7 9 "HookPier$Reader" "text" "[B"] (wsX70))
theorem ifX7_isLetter_X7 : ∀ w ∈ wsX70, w ∈ vfX7_isLetter := fun _ h => (List.mem_cons_of_mem _ (List.mem_append_right _ h))
theorem qfX7_isLetter : Good vfX7_isLetter := gd_cons (by decide +kernel) (gd_app (gd_dec (by decide +kernel) : Good [.fieldLink RX7 9 "HookPier$Reader" "text" "[B"]) qsX7)
set_option maxHeartbeats 2000000 in
set_option maxRecDepth 100000 in
theorem kfX7_isLetter (l : Launch) (dC : Nat → ClassId) (dI : Nat → Nat → Nat) (a0 : Nat) (k1 : Int32) (ur : Nat → Nat) (kr : Nat → ClassId) (r_r : TX7_r) (sz : Nat) (out : Int32) (h : f_X7_isLetter k1 r_r = some out) : Met l yX7_isLetter vfX7_isLetter ({ frames := 0, cells := 0, slots := 0, locals := 0 }) (PC (dC, dI) [.ref a0, .int k1] sz (bX7 a0 ur kr r_r []) (tX7 kr ([]))) (va_Qi (S := Unit) (fun (r : Int32) _ => r = out ∧ (0 ≤ r.toInt ∧ r.toInt ≤ 1)) (fun _ t => BC (dC, dI) (va_A (bX7 a0 ur kr r_r []) sz) (bX7 a0 ur kr r_r []) [] t) (va_A (bX7 a0 ur kr r_r []) sz)) 0 0 (va_A (bX7 a0 ur kr r_r []) sz) := by
  refine Met.ofW (cc := cX7_isLetter) (maxL := 2) (ret := (some .boolean)) (by decide) rfl ?_
  intro p e s m args below meth c s₁ B0 hml hv
  obtain ⟨rfl, hsz, hP, hK, hD0, hN⟩ := hv
  have hx := B0.exec
  have hb := B0.bytes
  have hr := B0.returns
  have hts := atoms_spec (ws := vfX7_isLetter) B0.pre
  have hown : s.vm.findClass RX7 = some m.cls := findClass_of_methodNamed B0.named
  have hlocks := B0.notSynchronized
  subst hsz
  have hD := hD0.self (sz := s.heap.size)
  generalize hAe : va_A (bX7 a0 ur kr r_r []) s.heap.size = A at hD ⊢
  have hA : ∀ q : Nat, s.heap.size ≤ q → A q := fun q h => by rw [← hAe]; exact Or.inr h
  have hS : va_S A s.heap s.heap [] := va_S.rf
  have hP : va_P (dC, dI) vwCl (bX7 a0 ur kr r_r []) s.heap := hP
  have hl := lv_entry ([.ref a0, .int k1]) (n := 2) (Nat.le_of_ble_eq_true rfl)
  rw [lg_entry_eq]
  generalize (lg_sl ([.ref a0, .int k1]) ++ List.replicate (2 - (lg_sl ([.ref a0, .int k1])).length) Slot.unset).toArray = ls at hl ⊢
  have hl : lv_has ls 2 [(0, .ref a0), (1, .int k1)] := hl
  refine W_q (fun QQ hQQ => ?_)
  rw [f_X7_isLetter] at h
  refine lv_aload_n hx hb dX7_isLetter_0 rfl (lv_at hl 0 rfl) ?_
  refine va_get (D := (dC, dI)) (ci := 5) (v := .ref (ur 0)) (C := RX7) (T := TX7) (N := 12) hx hb hts ifX7_isLetter_X7 hown hK hP 0 rfl rfl 0 (by decide) (hts (.fieldLink RX7 9 "HookPier$Reader" "text" "[B") (List.mem_of_getElem? (i := 1) rfl)) (fun _ h9 => h9) rfl dX7_isLetter_1 ?_
  refine lv_iload_n hx hb dX7_isLetter_4 rfl (lv_at hl 1 rfl) ?_
  obtain ⟨hg5, h⟩ := gA_of h
  refine va_bald hx hb hK hP 1 0 rfl rfl hg5 dX7_isLetter_5 ?_
  refine lv_bipush (v := 97) hx hb dX7_isLetter_6 (by decide) ?_
  refine lv_icmp_lt (tgt := 26) hx hb dX7_isLetter_8 (by decide) (fun c8 => ?_) (fun c8 => ?_)
  · have h := (if_pos c8).symm.trans h
    refine lv_iconst (v := 0) hx hb dX7_isLetter_26 (by decide) ?_
    obtain rfl := Option.some.inj h
    have hP9 := hP.sub (ws' := (bX7 a0 ur kr r_r [])) [0, 1, 2, 3] rfl
    have hD9 := hD.sub (ws' := (bX7 a0 ur kr r_r [])) [0, 1, 2, 3] (by decide) rfl
    have hK9 := hK.sub (tys' := []) [] rfl
    rw [hQQ]
    exact W.zret (v := (0 : Int32)) hx hb hr rfl (fun t ht hW => ⟨⟨(0 : Int32), (), rfl, ⟨rfl, (by decide)⟩, by rw [ht]; exact hP9, va_K.moved hW.alike hK9, hD9⟩, hS.F ht⟩) hS.2.2 dX7_isLetter_27
  · have h := (if_neg c8).symm.trans h
    refine lv_aload_n hx hb dX7_isLetter_11 rfl (lv_at hl 0 rfl) ?_
    refine va_get (D := (dC, dI)) (ci := 5) (v := .ref (ur 0)) (C := RX7) (T := TX7) (N := 12) hx hb hts ifX7_isLetter_X7 hown hK hP 0 rfl rfl 0 (by decide) (hts (.fieldLink RX7 9 "HookPier$Reader" "text" "[B") (List.mem_of_getElem? (i := 1) rfl)) (fun _ h9 => h9) rfl dX7_isLetter_12 ?_
    refine lv_iload_n hx hb dX7_isLetter_15 rfl (lv_at hl 1 rfl) ?_
    obtain ⟨hg16, h⟩ := gA_of h
    refine va_bald hx hb hK hP 1 0 rfl rfl hg16 dX7_isLetter_16 ?_
    refine lv_bipush (v := 122) hx hb dX7_isLetter_17 (by decide) ?_
    refine lv_icmp_gt (tgt := 26) hx hb dX7_isLetter_19 (by decide) (fun c19 => ?_) (fun c19 => ?_)
    · have h := (if_pos c19).symm.trans h
      refine lv_iconst (v := 0) hx hb dX7_isLetter_26 (by decide) ?_
      obtain rfl := Option.some.inj h
      have hP9 := hP.sub (ws' := (bX7 a0 ur kr r_r [])) [0, 1, 2, 3] rfl
      have hD9 := hD.sub (ws' := (bX7 a0 ur kr r_r [])) [0, 1, 2, 3] (by decide) rfl
      have hK9 := hK.sub (tys' := []) [] rfl
      rw [hQQ]
      exact W.zret (v := (0 : Int32)) hx hb hr rfl (fun t ht hW => ⟨⟨(0 : Int32), (), rfl, ⟨rfl, (by decide)⟩, by rw [ht]; exact hP9, va_K.moved hW.alike hK9, hD9⟩, hS.F ht⟩) hS.2.2 dX7_isLetter_27
    · have h := (if_neg c19).symm.trans h
      refine lv_iconst (v := 1) hx hb dX7_isLetter_22 (by decide) ?_
      refine lv_goto (tgt := 27) hx hb dX7_isLetter_23 (by decide) ?_
      obtain rfl := Option.some.inj h
      have hP9 := hP.sub (ws' := (bX7 a0 ur kr r_r [])) [0, 1, 2, 3] rfl
      have hD9 := hD.sub (ws' := (bX7 a0 ur kr r_r [])) [0, 1, 2, 3] (by decide) rfl
      have hK9 := hK.sub (tys' := []) [] rfl
      rw [hQQ]
      exact W.zret (v := (1 : Int32)) hx hb hr rfl (fun t ht hW => ⟨⟨(1 : Int32), (), rfl, ⟨rfl, (by decide)⟩, by rw [ht]; exact hP9, va_K.moved hW.alike hK9, hD9⟩, hS.F ht⟩) hS.2.2 dX7_isLetter_27
theorem dX7_isDigit_0 : decode cX7_isDigit 0 = .ok (.aload_n 0, 1) := by decide +kernel
theorem dX7_isDigit_1 : decode cX7_isDigit 1 = .ok (.getfield 9, 3) := by decide +kernel
theorem dX7_isDigit_11 : decode cX7_isDigit 11 = .ok (.aload_n 0, 1) := by decide +kernel
theorem dX7_isDigit_12 : decode cX7_isDigit 12 = .ok (.getfield 9, 3) := by decide +kernel
theorem dX7_isDigit_15 : decode cX7_isDigit 15 = .ok (.iload_n 1, 1) := by decide +kernel
theorem dX7_isDigit_16 : decode cX7_isDigit 16 = .ok (.baload, 1) := by decide +kernel
theorem dX7_isDigit_17 : decode cX7_isDigit 17 = .ok (.bipush 57, 2) := by decide +kernel
theorem dX7_isDigit_19 : decode cX7_isDigit 19 = .ok (.if_icmp .gt 7, 3) := by decide +kernel
theorem dX7_isDigit_22 : decode cX7_isDigit 22 = .ok (.iconst 1, 1) := by decide +kernel
theorem dX7_isDigit_23 : decode cX7_isDigit 23 = .ok (.goto 4, 3) := by decide +kernel
theorem dX7_isDigit_26 : decode cX7_isDigit 26 = .ok (.iconst 0, 1) := by decide +kernel
theorem dX7_isDigit_27 : decode cX7_isDigit 27 = .ok (.ireturn, 1) := by decide +kernel
theorem dX7_isDigit_4 : decode cX7_isDigit 4 = .ok (.iload_n 1, 1) := by decide +kernel
theorem dX7_isDigit_5 : decode cX7_isDigit 5 = .ok (.baload, 1) := by decide +kernel
theorem dX7_isDigit_6 : decode cX7_isDigit 6 = .ok (.bipush 48, 2) := by decide +kernel
theorem dX7_isDigit_8 : decode cX7_isDigit 8 = .ok (.if_icmp .lt 18, 3) := by decide +kernel
def vfX7_isDigit : List Cond := List.cons (.code yX7_isDigit cX7_isDigit 2 (some .boolean)) (apW [.fieldLink RX7 9 "HookPier$Reader" "text" "[B"] (wsX70))
theorem ifX7_isDigit_X7 : ∀ w ∈ wsX70, w ∈ vfX7_isDigit := fun _ h => (List.mem_cons_of_mem _ (List.mem_append_right _ h))
theorem qfX7_isDigit : Good vfX7_isDigit := gd_cons (by decide +kernel) (gd_app (gd_dec (by decide +kernel) : Good [.fieldLink RX7 9 "HookPier$Reader" "text" "[B"]) qsX7)
set_option maxHeartbeats 2000000 in
set_option maxRecDepth 100000 in
theorem kfX7_isDigit (l : Launch) (dC : Nat → ClassId) (dI : Nat → Nat → Nat) (a0 : Nat) (k1 : Int32) (ur : Nat → Nat) (kr : Nat → ClassId) (r_r : TX7_r) (sz : Nat) (out : Int32) (h : f_X7_isDigit k1 r_r = some out) : Met l yX7_isDigit vfX7_isDigit ({ frames := 0, cells := 0, slots := 0, locals := 0 }) (PC (dC, dI) [.ref a0, .int k1] sz (bX7 a0 ur kr r_r []) (tX7 kr ([]))) (va_Qi (S := Unit) (fun (r : Int32) _ => r = out ∧ (0 ≤ r.toInt ∧ r.toInt ≤ 1)) (fun _ t => BC (dC, dI) (va_A (bX7 a0 ur kr r_r []) sz) (bX7 a0 ur kr r_r []) [] t) (va_A (bX7 a0 ur kr r_r []) sz)) 0 0 (va_A (bX7 a0 ur kr r_r []) sz) := by
  refine Met.ofW (cc := cX7_isDigit) (maxL := 2) (ret := (some .boolean)) (by decide) rfl ?_
  intro p e s m args below meth c s₁ B0 hml hv
  obtain ⟨rfl, hsz, hP, hK, hD0, hN⟩ := hv
  have hx := B0.exec
  have hb := B0.bytes
  have hr := B0.returns
  have hts := atoms_spec (ws := vfX7_isDigit) B0.pre
  have hown : s.vm.findClass RX7 = some m.cls := findClass_of_methodNamed B0.named
  have hlocks := B0.notSynchronized
  subst hsz
  have hD := hD0.self (sz := s.heap.size)
  generalize hAe : va_A (bX7 a0 ur kr r_r []) s.heap.size = A at hD ⊢
  have hA : ∀ q : Nat, s.heap.size ≤ q → A q := fun q h => by rw [← hAe]; exact Or.inr h
  have hS : va_S A s.heap s.heap [] := va_S.rf
  have hP : va_P (dC, dI) vwCl (bX7 a0 ur kr r_r []) s.heap := hP
  have hl := lv_entry ([.ref a0, .int k1]) (n := 2) (Nat.le_of_ble_eq_true rfl)
  rw [lg_entry_eq]
  generalize (lg_sl ([.ref a0, .int k1]) ++ List.replicate (2 - (lg_sl ([.ref a0, .int k1])).length) Slot.unset).toArray = ls at hl ⊢
  have hl : lv_has ls 2 [(0, .ref a0), (1, .int k1)] := hl
  refine W_q (fun QQ hQQ => ?_)
  rw [f_X7_isDigit] at h
  refine lv_aload_n hx hb dX7_isDigit_0 rfl (lv_at hl 0 rfl) ?_
  refine va_get (D := (dC, dI)) (ci := 5) (v := .ref (ur 0)) (C := RX7) (T := TX7) (N := 12) hx hb hts ifX7_isDigit_X7 hown hK hP 0 rfl rfl 0 (by decide) (hts (.fieldLink RX7 9 "HookPier$Reader" "text" "[B") (List.mem_of_getElem? (i := 1) rfl)) (fun _ h9 => h9) rfl dX7_isDigit_1 ?_
  refine lv_iload_n hx hb dX7_isDigit_4 rfl (lv_at hl 1 rfl) ?_
  obtain ⟨hg5, h⟩ := gA_of h
  refine va_bald hx hb hK hP 1 0 rfl rfl hg5 dX7_isDigit_5 ?_
  refine lv_bipush (v := 48) hx hb dX7_isDigit_6 (by decide) ?_
  refine lv_icmp_lt (tgt := 26) hx hb dX7_isDigit_8 (by decide) (fun c8 => ?_) (fun c8 => ?_)
  · have h := (if_pos c8).symm.trans h
    refine lv_iconst (v := 0) hx hb dX7_isDigit_26 (by decide) ?_
    obtain rfl := Option.some.inj h
    have hP9 := hP.sub (ws' := (bX7 a0 ur kr r_r [])) [0, 1, 2, 3] rfl
    have hD9 := hD.sub (ws' := (bX7 a0 ur kr r_r [])) [0, 1, 2, 3] (by decide) rfl
    have hK9 := hK.sub (tys' := []) [] rfl
    rw [hQQ]
    exact W.zret (v := (0 : Int32)) hx hb hr rfl (fun t ht hW => ⟨⟨(0 : Int32), (), rfl, ⟨rfl, (by decide)⟩, by rw [ht]; exact hP9, va_K.moved hW.alike hK9, hD9⟩, hS.F ht⟩) hS.2.2 dX7_isDigit_27
  · have h := (if_neg c8).symm.trans h
    refine lv_aload_n hx hb dX7_isDigit_11 rfl (lv_at hl 0 rfl) ?_
    refine va_get (D := (dC, dI)) (ci := 5) (v := .ref (ur 0)) (C := RX7) (T := TX7) (N := 12) hx hb hts ifX7_isDigit_X7 hown hK hP 0 rfl rfl 0 (by decide) (hts (.fieldLink RX7 9 "HookPier$Reader" "text" "[B") (List.mem_of_getElem? (i := 1) rfl)) (fun _ h9 => h9) rfl dX7_isDigit_12 ?_
    refine lv_iload_n hx hb dX7_isDigit_15 rfl (lv_at hl 1 rfl) ?_
    obtain ⟨hg16, h⟩ := gA_of h
    refine va_bald hx hb hK hP 1 0 rfl rfl hg16 dX7_isDigit_16 ?_
    refine lv_bipush (v := 57) hx hb dX7_isDigit_17 (by decide) ?_
    refine lv_icmp_gt (tgt := 26) hx hb dX7_isDigit_19 (by decide) (fun c19 => ?_) (fun c19 => ?_)
    · have h := (if_pos c19).symm.trans h
      refine lv_iconst (v := 0) hx hb dX7_isDigit_26 (by decide) ?_
      obtain rfl := Option.some.inj h
      have hP9 := hP.sub (ws' := (bX7 a0 ur kr r_r [])) [0, 1, 2, 3] rfl
      have hD9 := hD.sub (ws' := (bX7 a0 ur kr r_r [])) [0, 1, 2, 3] (by decide) rfl
      have hK9 := hK.sub (tys' := []) [] rfl
      rw [hQQ]
      exact W.zret (v := (0 : Int32)) hx hb hr rfl (fun t ht hW => ⟨⟨(0 : Int32), (), rfl, ⟨rfl, (by decide)⟩, by rw [ht]; exact hP9, va_K.moved hW.alike hK9, hD9⟩, hS.F ht⟩) hS.2.2 dX7_isDigit_27
    · have h := (if_neg c19).symm.trans h
      refine lv_iconst (v := 1) hx hb dX7_isDigit_22 (by decide) ?_
      refine lv_goto (tgt := 27) hx hb dX7_isDigit_23 (by decide) ?_
      obtain rfl := Option.some.inj h
      have hP9 := hP.sub (ws' := (bX7 a0 ur kr r_r [])) [0, 1, 2, 3] rfl
      have hD9 := hD.sub (ws' := (bX7 a0 ur kr r_r [])) [0, 1, 2, 3] (by decide) rfl
      have hK9 := hK.sub (tys' := []) [] rfl
      rw [hQQ]
      exact W.zret (v := (1 : Int32)) hx hb hr rfl (fun t ht hW => ⟨⟨(1 : Int32), (), rfl, ⟨rfl, (by decide)⟩, by rw [ht]; exact hP9, va_K.moved hW.alike hK9, hD9⟩, hS.F ht⟩) hS.2.2 dX7_isDigit_27
theorem dX7_advance_0 : decode cX7_advance 0 = .ok (.aload_n 0, 1) := by decide +kernel
theorem dX7_advance_1 : decode cX7_advance 1 = .ok (.aload_n 0, 1) := by decide +kernel
theorem dX7_advance_100 : decode cX7_advance 100 = .ok (.invokevirtual 245, 3) := by decide +kernel
theorem dX7_advance_103 : decode cX7_advance 103 = .ok (.ifCond .eq 16, 3) := by decide +kernel
theorem dX7_advance_106 : decode cX7_advance 106 = .ok (.aload_n 0, 1) := by decide +kernel
theorem dX7_advance_107 : decode cX7_advance 107 = .ok (.dup, 1) := by decide +kernel
theorem dX7_advance_108 : decode cX7_advance 108 = .ok (.getfield 28, 3) := by decide +kernel
theorem dX7_advance_111 : decode cX7_advance 111 = .ok (.iconst 1, 1) := by decide +kernel
theorem dX7_advance_112 : decode cX7_advance 112 = .ok (.iadd, 1) := by decide +kernel
theorem dX7_advance_113 : decode cX7_advance 113 = .ok (.putfield 28, 3) := by decide +kernel
theorem dX7_advance_116 : decode cX7_advance 116 = .ok (.goto (-32), 3) := by decide +kernel
theorem dX7_advance_119 : decode cX7_advance 119 = .ok (.aload_n 0, 1) := by decide +kernel
theorem dX7_advance_12 : decode cX7_advance 12 = .ok (.aload_n 0, 1) := by decide +kernel
theorem dX7_advance_120 : decode cX7_advance 120 = .ok (.aload_n 0, 1) := by decide +kernel
theorem dX7_advance_121 : decode cX7_advance 121 = .ok (.getfield 28, 3) := by decide +kernel
theorem dX7_advance_124 : decode cX7_advance 124 = .ok (.aload_n 0, 1) := by decide +kernel
theorem dX7_advance_125 : decode cX7_advance 125 = .ok (.getfield 25, 3) := by decide +kernel
theorem dX7_advance_128 : decode cX7_advance 128 = .ok (.isub, 1) := by decide +kernel
theorem dX7_advance_129 : decode cX7_advance 129 = .ok (.bipush 8, 2) := by decide +kernel
theorem dX7_advance_13 : decode cX7_advance 13 = .ok (.getfield 19, 3) := by decide +kernel
theorem dX7_advance_131 : decode cX7_advance 131 = .ok (.if_icmp .gt 7, 3) := by decide +kernel
theorem dX7_advance_134 : decode cX7_advance 134 = .ok (.iconst 1, 1) := by decide +kernel
theorem dX7_advance_135 : decode cX7_advance 135 = .ok (.goto 4, 3) := by decide +kernel
theorem dX7_advance_138 : decode cX7_advance 138 = .ok (.iconst 4, 1) := by decide +kernel
theorem dX7_advance_139 : decode cX7_advance 139 = .ok (.putfield 22, 3) := by decide +kernel
theorem dX7_advance_142 : decode cX7_advance 142 = .ok (.goto 107, 3) := by decide +kernel
theorem dX7_advance_145 : decode cX7_advance 145 = .ok (.aload_n 0, 1) := by decide +kernel
theorem dX7_advance_146 : decode cX7_advance 146 = .ok (.aload_n 0, 1) := by decide +kernel
theorem dX7_advance_147 : decode cX7_advance 147 = .ok (.getfield 25, 3) := by decide +kernel
theorem dX7_advance_150 : decode cX7_advance 150 = .ok (.invokevirtual 248, 3) := by decide +kernel
theorem dX7_advance_153 : decode cX7_advance 153 = .ok (.ifCond .eq 63, 3) := by decide +kernel
theorem dX7_advance_156 : decode cX7_advance 156 = .ok (.aload_n 0, 1) := by decide +kernel
theorem dX7_advance_157 : decode cX7_advance 157 = .ok (.getfield 28, 3) := by decide +kernel
theorem dX7_advance_16 : decode cX7_advance 16 = .ok (.if_icmp .ge 30, 3) := by decide +kernel
theorem dX7_advance_160 : decode cX7_advance 160 = .ok (.aload_n 0, 1) := by decide +kernel
theorem dX7_advance_161 : decode cX7_advance 161 = .ok (.getfield 19, 3) := by decide +kernel
theorem dX7_advance_164 : decode cX7_advance 164 = .ok (.if_icmp .ge 27, 3) := by decide +kernel
theorem dX7_advance_167 : decode cX7_advance 167 = .ok (.aload_n 0, 1) := by decide +kernel
theorem dX7_advance_168 : decode cX7_advance 168 = .ok (.aload_n 0, 1) := by decide +kernel
theorem dX7_advance_169 : decode cX7_advance 169 = .ok (.getfield 28, 3) := by decide +kernel
theorem dX7_advance_172 : decode cX7_advance 172 = .ok (.invokevirtual 248, 3) := by decide +kernel
theorem dX7_advance_175 : decode cX7_advance 175 = .ok (.ifCond .eq 16, 3) := by decide +kernel
theorem dX7_advance_178 : decode cX7_advance 178 = .ok (.aload_n 0, 1) := by decide +kernel
theorem dX7_advance_179 : decode cX7_advance 179 = .ok (.dup, 1) := by decide +kernel
theorem dX7_advance_180 : decode cX7_advance 180 = .ok (.getfield 28, 3) := by decide +kernel
theorem dX7_advance_183 : decode cX7_advance 183 = .ok (.iconst 1, 1) := by decide +kernel
theorem dX7_advance_184 : decode cX7_advance 184 = .ok (.iadd, 1) := by decide +kernel
theorem dX7_advance_185 : decode cX7_advance 185 = .ok (.putfield 28, 3) := by decide +kernel
theorem dX7_advance_188 : decode cX7_advance 188 = .ok (.goto (-32), 3) := by decide +kernel
theorem dX7_advance_19 : decode cX7_advance 19 = .ok (.aload_n 0, 1) := by decide +kernel
theorem dX7_advance_191 : decode cX7_advance 191 = .ok (.aload_n 0, 1) := by decide +kernel
theorem dX7_advance_192 : decode cX7_advance 192 = .ok (.aload_n 0, 1) := by decide +kernel
theorem dX7_advance_193 : decode cX7_advance 193 = .ok (.getfield 28, 3) := by decide +kernel
theorem dX7_advance_196 : decode cX7_advance 196 = .ok (.aload_n 0, 1) := by decide +kernel
theorem dX7_advance_197 : decode cX7_advance 197 = .ok (.getfield 25, 3) := by decide +kernel
theorem dX7_advance_2 : decode cX7_advance 2 = .ok (.getfield 28, 3) := by decide +kernel
theorem dX7_advance_20 : decode cX7_advance 20 = .ok (.getfield 9, 3) := by decide +kernel
theorem dX7_advance_200 : decode cX7_advance 200 = .ok (.isub, 1) := by decide +kernel
theorem dX7_advance_201 : decode cX7_advance 201 = .ok (.iconst 2, 1) := by decide +kernel
theorem dX7_advance_202 : decode cX7_advance 202 = .ok (.if_icmp .gt 7, 3) := by decide +kernel
theorem dX7_advance_205 : decode cX7_advance 205 = .ok (.iconst 2, 1) := by decide +kernel
theorem dX7_advance_206 : decode cX7_advance 206 = .ok (.goto 4, 3) := by decide +kernel
theorem dX7_advance_209 : decode cX7_advance 209 = .ok (.iconst 4, 1) := by decide +kernel
theorem dX7_advance_210 : decode cX7_advance 210 = .ok (.putfield 22, 3) := by decide +kernel
theorem dX7_advance_213 : decode cX7_advance 213 = .ok (.goto 36, 3) := by decide +kernel
theorem dX7_advance_216 : decode cX7_advance 216 = .ok (.aload_n 0, 1) := by decide +kernel
theorem dX7_advance_217 : decode cX7_advance 217 = .ok (.aload_n 0, 1) := by decide +kernel
theorem dX7_advance_218 : decode cX7_advance 218 = .ok (.getfield 9, 3) := by decide +kernel
theorem dX7_advance_221 : decode cX7_advance 221 = .ok (.aload_n 0, 1) := by decide +kernel
theorem dX7_advance_222 : decode cX7_advance 222 = .ok (.getfield 25, 3) := by decide +kernel
theorem dX7_advance_225 : decode cX7_advance 225 = .ok (.baload, 1) := by decide +kernel
theorem dX7_advance_226 : decode cX7_advance 226 = .ok (.bipush 59, 2) := by decide +kernel
theorem dX7_advance_228 : decode cX7_advance 228 = .ok (.if_icmp .ne 7, 3) := by decide +kernel
theorem dX7_advance_23 : decode cX7_advance 23 = .ok (.aload_n 0, 1) := by decide +kernel
theorem dX7_advance_231 : decode cX7_advance 231 = .ok (.iconst 3, 1) := by decide +kernel
theorem dX7_advance_232 : decode cX7_advance 232 = .ok (.goto 4, 3) := by decide +kernel
theorem dX7_advance_235 : decode cX7_advance 235 = .ok (.iconst 4, 1) := by decide +kernel
theorem dX7_advance_236 : decode cX7_advance 236 = .ok (.putfield 22, 3) := by decide +kernel
theorem dX7_advance_239 : decode cX7_advance 239 = .ok (.aload_n 0, 1) := by decide +kernel
theorem dX7_advance_24 : decode cX7_advance 24 = .ok (.getfield 25, 3) := by decide +kernel
theorem dX7_advance_240 : decode cX7_advance 240 = .ok (.dup, 1) := by decide +kernel
theorem dX7_advance_241 : decode cX7_advance 241 = .ok (.getfield 28, 3) := by decide +kernel
theorem dX7_advance_244 : decode cX7_advance 244 = .ok (.iconst 1, 1) := by decide +kernel
theorem dX7_advance_245 : decode cX7_advance 245 = .ok (.iadd, 1) := by decide +kernel
theorem dX7_advance_246 : decode cX7_advance 246 = .ok (.putfield 28, 3) := by decide +kernel
theorem dX7_advance_249 : decode cX7_advance 249 = .ok (.return_, 1) := by decide +kernel
theorem dX7_advance_27 : decode cX7_advance 27 = .ok (.baload, 1) := by decide +kernel
theorem dX7_advance_28 : decode cX7_advance 28 = .ok (.bipush 32, 2) := by decide +kernel
theorem dX7_advance_30 : decode cX7_advance 30 = .ok (.if_icmp .ne 16, 3) := by decide +kernel
theorem dX7_advance_33 : decode cX7_advance 33 = .ok (.aload_n 0, 1) := by decide +kernel
theorem dX7_advance_34 : decode cX7_advance 34 = .ok (.dup, 1) := by decide +kernel
theorem dX7_advance_35 : decode cX7_advance 35 = .ok (.getfield 25, 3) := by decide +kernel
theorem dX7_advance_38 : decode cX7_advance 38 = .ok (.iconst 1, 1) := by decide +kernel
theorem dX7_advance_39 : decode cX7_advance 39 = .ok (.iadd, 1) := by decide +kernel
theorem dX7_advance_40 : decode cX7_advance 40 = .ok (.putfield 25, 3) := by decide +kernel
theorem dX7_advance_43 : decode cX7_advance 43 = .ok (.goto (-35), 3) := by decide +kernel
theorem dX7_advance_46 : decode cX7_advance 46 = .ok (.aload_n 0, 1) := by decide +kernel
theorem dX7_advance_47 : decode cX7_advance 47 = .ok (.aload_n 0, 1) := by decide +kernel
theorem dX7_advance_48 : decode cX7_advance 48 = .ok (.getfield 25, 3) := by decide +kernel
theorem dX7_advance_5 : decode cX7_advance 5 = .ok (.putfield 25, 3) := by decide +kernel
theorem dX7_advance_51 : decode cX7_advance 51 = .ok (.putfield 28, 3) := by decide +kernel
theorem dX7_advance_54 : decode cX7_advance 54 = .ok (.aload_n 0, 1) := by decide +kernel
theorem dX7_advance_55 : decode cX7_advance 55 = .ok (.getfield 25, 3) := by decide +kernel
theorem dX7_advance_58 : decode cX7_advance 58 = .ok (.aload_n 0, 1) := by decide +kernel
theorem dX7_advance_59 : decode cX7_advance 59 = .ok (.getfield 19, 3) := by decide +kernel
theorem dX7_advance_62 : decode cX7_advance 62 = .ok (.if_icmp .lt 11, 3) := by decide +kernel
theorem dX7_advance_65 : decode cX7_advance 65 = .ok (.aload_n 0, 1) := by decide +kernel
theorem dX7_advance_66 : decode cX7_advance 66 = .ok (.iconst 0, 1) := by decide +kernel
theorem dX7_advance_67 : decode cX7_advance 67 = .ok (.putfield 22, 3) := by decide +kernel
theorem dX7_advance_70 : decode cX7_advance 70 = .ok (.goto 179, 3) := by decide +kernel
theorem dX7_advance_73 : decode cX7_advance 73 = .ok (.aload_n 0, 1) := by decide +kernel
theorem dX7_advance_74 : decode cX7_advance 74 = .ok (.aload_n 0, 1) := by decide +kernel
theorem dX7_advance_75 : decode cX7_advance 75 = .ok (.getfield 25, 3) := by decide +kernel
theorem dX7_advance_78 : decode cX7_advance 78 = .ok (.invokevirtual 245, 3) := by decide +kernel
theorem dX7_advance_8 : decode cX7_advance 8 = .ok (.aload_n 0, 1) := by decide +kernel
theorem dX7_advance_81 : decode cX7_advance 81 = .ok (.ifCond .eq 64, 3) := by decide +kernel
theorem dX7_advance_84 : decode cX7_advance 84 = .ok (.aload_n 0, 1) := by decide +kernel
theorem dX7_advance_85 : decode cX7_advance 85 = .ok (.getfield 28, 3) := by decide +kernel
theorem dX7_advance_88 : decode cX7_advance 88 = .ok (.aload_n 0, 1) := by decide +kernel
theorem dX7_advance_89 : decode cX7_advance 89 = .ok (.getfield 19, 3) := by decide +kernel
theorem dX7_advance_9 : decode cX7_advance 9 = .ok (.getfield 25, 3) := by decide +kernel
theorem dX7_advance_92 : decode cX7_advance 92 = .ok (.if_icmp .ge 27, 3) := by decide +kernel
theorem dX7_advance_95 : decode cX7_advance 95 = .ok (.aload_n 0, 1) := by decide +kernel
theorem dX7_advance_96 : decode cX7_advance 96 = .ok (.aload_n 0, 1) := by decide +kernel
theorem dX7_advance_97 : decode cX7_advance 97 = .ok (.getfield 28, 3) := by decide +kernel
def vfX7_advance : List Cond := List.cons (.code yX7_advance cX7_advance 1 none) (apW [.fieldLink RX7 28 "HookPier$Reader" "behind" "I", .fieldLink RX7 25 "HookPier$Reader" "start" "I", .fieldLink RX7 19 "HookPier$Reader" "end" "I", .methodLink RX7 245 yX7_isLetter, .instanceMethod yX7_isLetter, .selects RX7 yX7_isLetter yX7_isLetter, .initialized RX7, .fieldLink RX7 22 "HookPier$Reader" "token" "I", .methodLink RX7 248 yX7_isDigit, .instanceMethod yX7_isDigit, .selects RX7 yX7_isDigit yX7_isDigit, .fieldLink RX7 9 "HookPier$Reader" "text" "[B"] (apW wsX70 (apW vfX7_isLetter (vfX7_isDigit))))
theorem ifX7_advance_X7 : ∀ w ∈ wsX70, w ∈ vfX7_advance := fun _ h => (List.mem_cons_of_mem _ (List.mem_append_right _ (List.mem_append_left _ h)))
theorem qfX7_advance : Good vfX7_advance := gd_cons (by decide +kernel) (gd_app (gd_dec (by decide +kernel) : Good [.fieldLink RX7 28 "HookPier$Reader" "behind" "I", .fieldLink RX7 25 "HookPier$Reader" "start" "I", .fieldLink RX7 19 "HookPier$Reader" "end" "I", .methodLink RX7 245 yX7_isLetter, .instanceMethod yX7_isLetter, .selects RX7 yX7_isLetter yX7_isLetter, .initialized RX7, .fieldLink RX7 22 "HookPier$Reader" "token" "I", .methodLink RX7 248 yX7_isDigit, .instanceMethod yX7_isDigit, .selects RX7 yX7_isDigit yX7_isDigit, .fieldLink RX7 9 "HookPier$Reader" "text" "[B"]) (gd_app qsX7 (gd_app qfX7_isLetter qfX7_isDigit)))
theorem gfX7_advance_0 : GoodIn vfX7_advance (wsV RX7 245 RX7 yX7_isLetter vfX7_isLetter) := goodIn_app (goodIn_r [.methodLink RX7 245 yX7_isLetter, .instanceMethod yX7_isLetter, .selects RX7 yX7_isLetter yX7_isLetter, .initialized RX7] [4, 5, 6, 7] rfl (by decide +kernel)) (goodIn_m (fun _ h => (List.mem_cons_of_mem _ (List.mem_append_right _ (List.mem_append_right _ (List.mem_append_left _ h))))) qfX7_isLetter)
theorem gfX7_advance_1 : GoodIn vfX7_advance (wsV RX7 248 RX7 yX7_isDigit vfX7_isDigit) := goodIn_app (goodIn_r [.methodLink RX7 248 yX7_isDigit, .instanceMethod yX7_isDigit, .selects RX7 yX7_isDigit yX7_isDigit, .initialized RX7] [9, 10, 11, 7] rfl (by decide +kernel)) (goodIn_m (fun _ h => (List.mem_cons_of_mem _ (List.mem_append_right _ (List.mem_append_right _ (List.mem_append_right _ h))))) qfX7_isDigit)
set_option maxHeartbeats 2000000 in
set_option maxRecDepth 100000 in
theorem kfX7_advance (l : Launch) (dC : Nat → ClassId) (dI : Nat → Nat → Nat) (a0 : Nat) (ur : Nat → Nat) (kr : Nat → ClassId) (r_r : TX7_r) (sz : Nat) (out : TX7_r) (h : f_X7_advance r_r = some out) : Met l yX7_advance vfX7_advance ({ frames := 1, cells := 0, slots := 0, locals := 21 }) (PC (dC, dI) [.ref a0] sz (bX7 a0 ur kr r_r []) (tX7 kr ([]))) (va_Qv (S := Unit) (fun _ => True) (fun _ t => BC (dC, dI) (va_A (bX7 a0 ur kr r_r []) sz) (bX7 a0 ur kr out []) [] t) (va_A (bX7 a0 ur kr r_r []) sz)) 0 0 (va_A (bX7 a0 ur kr r_r []) sz) := by
  refine Met.ofW (cc := cX7_advance) (maxL := 1) (ret := none) (by decide) rfl ?_
  intro p e s m args below meth c s₁ B0 hml hv
  obtain ⟨rfl, hsz, hP, hK, hD0, hN⟩ := hv
  have hx := B0.exec
  have hb := B0.bytes
  have hr := B0.returns
  have hts := atoms_spec (ws := vfX7_advance) B0.pre
  have hown : s.vm.findClass RX7 = some m.cls := findClass_of_methodNamed B0.named
  have hlocks := B0.notSynchronized
  subst hsz
  have hD := hD0.self (sz := s.heap.size)
  generalize hAe : va_A (bX7 a0 ur kr r_r []) s.heap.size = A at hD ⊢
  have hA : ∀ q : Nat, s.heap.size ≤ q → A q := fun q h => by rw [← hAe]; exact Or.inr h
  have hS : va_S A s.heap s.heap [] := va_S.rf
  have hP : va_P (dC, dI) vwCl (bX7 a0 ur kr r_r []) s.heap := hP
  have hl := lv_entry ([.ref a0]) (n := 1) (Nat.le_of_ble_eq_true rfl)
  rw [lg_entry_eq]
  generalize (lg_sl ([.ref a0]) ++ List.replicate (1 - (lg_sl ([.ref a0])).length) Slot.unset).toArray = ls at hl ⊢
  have hl : lv_has ls 1 [(0, .ref a0)] := hl
  refine W_q (fun QQ hQQ => ?_)
  rw [f_X7_advance] at h
  refine lv_aload_n hx hb dX7_advance_0 rfl (lv_at hl 0 rfl) ?_
  refine lv_aload_n hx hb dX7_advance_1 rfl (lv_at hl 0 rfl) ?_
  refine va_get (D := (dC, dI)) (ci := 5) (v := .int r_r.2.2.2.2.2.1) (C := RX7) (T := TX7) (N := 12) hx hb hts ifX7_advance_X7 hown hK hP 0 rfl rfl 5 (by decide) (hts (.fieldLink RX7 28 "HookPier$Reader" "behind" "I") (List.mem_of_getElem? (i := 1) rfl)) (fun _ h9 => h9) rfl dX7_advance_2 ?_
  refine va_put (D := (dC, dI)) (ci := 5) (v := .int r_r.2.2.2.2.2.1) (ty := .int) (C := RX7) (T := TX7) (N := 12) hx hb hts ifX7_advance_X7 tyX7 tyX7_ok nmX7 hown hK hP hD hS 0 rfl rfl 4 (by decide) (hts (.fieldLink RX7 25 "HookPier$Reader" "start" "I") (List.mem_of_getElem? (i := 2) rfl)) (fun _ h9 => h9) rfl (by decide +kernel) rfl rfl (Nat.le_of_ble_eq_true rfl) dX7_advance_5 (fun H locs hP hD hS => ?_)
  have hP : va_P (dC, dI) vwCl (bX7 a0 ur kr (r_r.1, r_r.2.1, r_r.2.2.1, r_r.2.2.2.1, r_r.2.2.2.2.2.1, r_r.2.2.2.2.2) []) H := hP
  have hD : va_D A (bX7 a0 ur kr (r_r.1, r_r.2.1, r_r.2.2.1, r_r.2.2.2.1, r_r.2.2.2.2.2.1, r_r.2.2.2.2.2) []) := hD
  have L8 : ∀ (n8 : Nat) (v8_r_r : TX7_r) (H : Heap) (locs : List Loc) (ls : Array Slot), f_X7_advance_L8 n8 v8_r_r = some out → va_P (dC, dI) vwCl (bX7 a0 ur kr v8_r_r []) H → va_D A (bX7 a0 ur kr v8_r_r []) → va_S A s.heap H locs → lv_has ls 1 [(0, .ref a0)] → W p l e (headSpec vfX7_advance { frames := 1, cells := 0, slots := 0, locals := 21 }).room s m ([.ref a0]).toArray below meth c H locs 0 0 QQ (F0 m 8 ls []) := by
    intro n8
    induction n8 with
    | zero =>
      intro v8_r_r H locs ls h  _ _ _ _
      rw [f_X7_advance_L8] at h
      cases h
    | succ n8 ih8 =>
      intro v8_r_r H locs ls h  hP hD hS hl
      rw [f_X7_advance_L8] at h
      refine lv_aload_n hx hb dX7_advance_8 rfl (lv_at hl 0 rfl) ?_
      refine va_get (D := (dC, dI)) (ci := 5) (v := .int v8_r_r.2.2.2.2.1) (C := RX7) (T := TX7) (N := 12) hx hb hts ifX7_advance_X7 hown hK hP 0 rfl rfl 4 (by decide) (hts (.fieldLink RX7 25 "HookPier$Reader" "start" "I") (List.mem_of_getElem? (i := 2) rfl)) (fun _ h9 => h9) rfl dX7_advance_9 ?_
      refine lv_aload_n hx hb dX7_advance_12 rfl (lv_at hl 0 rfl) ?_
      refine va_get (D := (dC, dI)) (ci := 5) (v := .int v8_r_r.2.2.1) (C := RX7) (T := TX7) (N := 12) hx hb hts ifX7_advance_X7 hown hK hP 0 rfl rfl 2 (by decide) (hts (.fieldLink RX7 19 "HookPier$Reader" "end" "I") (List.mem_of_getElem? (i := 3) rfl)) (fun _ h9 => h9) rfl dX7_advance_13 ?_
      have J46 : ∀ (H : Heap) (locs : List Loc) (ls : Array Slot), f_X7_advance_J46 v8_r_r = some out → va_P (dC, dI) vwCl (bX7 a0 ur kr v8_r_r []) H → va_D A (bX7 a0 ur kr v8_r_r []) → va_S A s.heap H locs → lv_has ls 1 [(0, .ref a0)] → W p l e (headSpec vfX7_advance { frames := 1, cells := 0, slots := 0, locals := 21 }).room s m ([.ref a0]).toArray below meth c H locs 0 0 QQ (F0 m 46 ls []) := by
        intro  H locs ls h  hP hD hS hl
        rw [f_X7_advance_J46] at h
        refine lv_aload_n hx hb dX7_advance_46 rfl (lv_at hl 0 rfl) ?_
        refine lv_aload_n hx hb dX7_advance_47 rfl (lv_at hl 0 rfl) ?_
        refine va_get (D := (dC, dI)) (ci := 5) (v := .int v8_r_r.2.2.2.2.1) (C := RX7) (T := TX7) (N := 12) hx hb hts ifX7_advance_X7 hown hK hP 0 rfl rfl 4 (by decide) (hts (.fieldLink RX7 25 "HookPier$Reader" "start" "I") (List.mem_of_getElem? (i := 2) rfl)) (fun _ h9 => h9) rfl dX7_advance_48 ?_
        refine va_put (D := (dC, dI)) (ci := 5) (v := .int v8_r_r.2.2.2.2.1) (ty := .int) (C := RX7) (T := TX7) (N := 12) hx hb hts ifX7_advance_X7 tyX7 tyX7_ok nmX7 hown hK hP hD hS 0 rfl rfl 5 (by decide) (hts (.fieldLink RX7 28 "HookPier$Reader" "behind" "I") (List.mem_of_getElem? (i := 1) rfl)) (fun _ h9 => h9) rfl (by decide +kernel) rfl rfl (Nat.le_of_ble_eq_true rfl) dX7_advance_51 (fun H locs hP hD hS => ?_)
        have hP : va_P (dC, dI) vwCl (bX7 a0 ur kr (v8_r_r.1, v8_r_r.2.1, v8_r_r.2.2.1, v8_r_r.2.2.2.1, v8_r_r.2.2.2.2.1, v8_r_r.2.2.2.2.1, v8_r_r.2.2.2.2.2.2) []) H := hP
        have hD : va_D A (bX7 a0 ur kr (v8_r_r.1, v8_r_r.2.1, v8_r_r.2.2.1, v8_r_r.2.2.2.1, v8_r_r.2.2.2.2.1, v8_r_r.2.2.2.2.1, v8_r_r.2.2.2.2.2.2) []) := hD
        refine lv_aload_n hx hb dX7_advance_54 rfl (lv_at hl 0 rfl) ?_
        refine va_get (D := (dC, dI)) (ci := 5) (v := .int v8_r_r.2.2.2.2.1) (C := RX7) (T := TX7) (N := 12) hx hb hts ifX7_advance_X7 hown hK hP 0 rfl rfl 4 (by decide) (hts (.fieldLink RX7 25 "HookPier$Reader" "start" "I") (List.mem_of_getElem? (i := 2) rfl)) (fun _ h9 => h9) rfl dX7_advance_55 ?_
        refine lv_aload_n hx hb dX7_advance_58 rfl (lv_at hl 0 rfl) ?_
        refine va_get (D := (dC, dI)) (ci := 5) (v := .int v8_r_r.2.2.1) (C := RX7) (T := TX7) (N := 12) hx hb hts ifX7_advance_X7 hown hK hP 0 rfl rfl 2 (by decide) (hts (.fieldLink RX7 19 "HookPier$Reader" "end" "I") (List.mem_of_getElem? (i := 3) rfl)) (fun _ h9 => h9) rfl dX7_advance_59 ?_
        refine lv_icmp_lt (tgt := 73) hx hb dX7_advance_62 (by decide) (fun c62 => ?_) (fun c62 => ?_)
        · have h := (if_pos c62).symm.trans h
          refine lv_aload_n hx hb dX7_advance_73 rfl (lv_at hl 0 rfl) ?_
          refine lv_aload_n hx hb dX7_advance_74 rfl (lv_at hl 0 rfl) ?_
          refine va_get (D := (dC, dI)) (ci := 5) (v := .int v8_r_r.2.2.2.2.1) (C := RX7) (T := TX7) (N := 12) hx hb hts ifX7_advance_X7 hown hK hP 0 rfl rfl 4 (by decide) (hts (.fieldLink RX7 25 "HookPier$Reader" "start" "I") (List.mem_of_getElem? (i := 2) rfl)) (fun _ h9 => h9) rfl dX7_advance_75 ?_
          obtain ⟨o78, eo78, h⟩ := bd_of h
          refine cl_i (wc := (bX7 a0 ur kr (v8_r_r.1, v8_r_r.2.1, v8_r_r.2.2.1, v8_r_r.2.2.2.1, v8_r_r.2.2.2.2.1, v8_r_r.2.2.2.2.1, v8_r_r.2.2.2.2.2.2) [])) (wr := []) (va_runV (As := [.int v8_r_r.2.2.2.2.1]) (rest := []) ⟨hx, hb, hml, hown, hts⟩ (kfX7_isLetter l dC dI a0 v8_r_r.2.2.2.2.1 ur kr (v8_r_r.1, v8_r_r.2.1, v8_r_r.2.2.1, v8_r_r.2.2.2.1, v8_r_r.2.2.2.2.1, v8_r_r.2.2.2.2.1, v8_r_r.2.2.2.2.2.2) H.size o78 eo78) (cwV 1 hts gfX7_advance_0 rfl rfl rfl (by decide +kernel) ⟨(Nat.le_of_ble_eq_true rfl), (Nat.le_of_ble_eq_true rfl)⟩) (PV (hP.sub (ws' := (bX7 a0 ur kr (v8_r_r.1, v8_r_r.2.1, v8_r_r.2.2.1, v8_r_r.2.2.2.1, v8_r_r.2.2.2.2.1, v8_r_r.2.2.2.2.1, v8_r_r.2.2.2.2.2.2) [])) [0, 1, 2, 3] rfl) (hK.sub (tys' := (tX7 kr ([]))) [0, 1, 2] rfl) (hD.sub (ws' := (bX7 a0 ur kr (v8_r_r.1, v8_r_r.2.1, v8_r_r.2.2.1, v8_r_r.2.2.2.1, v8_r_r.2.2.2.2.1, v8_r_r.2.2.2.2.1, v8_r_r.2.2.2.2.2.2) [])) [0, 1, 2, 3] (by decide) rfl) hN 0 rfl rfl) rfl rfl hl.1 rfl (lv_room (Nat.le_of_ble_eq_true rfl)) dX7_advance_78 ⟨(Nat.le_of_ble_eq_true rfl), (Nat.le_of_ble_eq_true rfl)⟩) hP hD hK hS hA [0, 1, 2, 3] [] rfl rfl (by decide) (by decide) (fun r78 _ H locs hw hP hD _ hS => ?_)
          obtain ⟨hw, br78⟩ := hw
          obtain rfl := hw.symm
          have hP : va_P (dC, dI) vwCl (bX7 a0 ur kr (v8_r_r.1, v8_r_r.2.1, v8_r_r.2.2.1, v8_r_r.2.2.2.1, v8_r_r.2.2.2.2.1, v8_r_r.2.2.2.2.1, v8_r_r.2.2.2.2.2.2) []) H := hP
          have hD : va_D A (bX7 a0 ur kr (v8_r_r.1, v8_r_r.2.1, v8_r_r.2.2.1, v8_r_r.2.2.2.1, v8_r_r.2.2.2.2.1, v8_r_r.2.2.2.2.1, v8_r_r.2.2.2.2.2.2) []) := hD
          have L84 : ∀ (n84 : Nat) (v84_r_r : TX7_r) (H : Heap) (locs : List Loc) (ls : Array Slot), f_X7_advance_L84 n84 v84_r_r = some out → va_P (dC, dI) vwCl (bX7 a0 ur kr v84_r_r []) H → va_D A (bX7 a0 ur kr v84_r_r []) → va_S A s.heap H locs → lv_has ls 1 [(0, .ref a0)] → W p l e (headSpec vfX7_advance { frames := 1, cells := 0, slots := 0, locals := 21 }).room s m ([.ref a0]).toArray below meth c H locs 0 0 QQ (F0 m 84 ls []) := by
            intro n84
            induction n84 with
            | zero =>
              intro v84_r_r H locs ls h  _ _ _ _
              rw [f_X7_advance_L84] at h
              cases h
            | succ n84 ih84 =>
              intro v84_r_r H locs ls h  hP hD hS hl
              rw [f_X7_advance_L84] at h
              refine lv_aload_n hx hb dX7_advance_84 rfl (lv_at hl 0 rfl) ?_
              refine va_get (D := (dC, dI)) (ci := 5) (v := .int v84_r_r.2.2.2.2.2.1) (C := RX7) (T := TX7) (N := 12) hx hb hts ifX7_advance_X7 hown hK hP 0 rfl rfl 5 (by decide) (hts (.fieldLink RX7 28 "HookPier$Reader" "behind" "I") (List.mem_of_getElem? (i := 1) rfl)) (fun _ h9 => h9) rfl dX7_advance_85 ?_
              refine lv_aload_n hx hb dX7_advance_88 rfl (lv_at hl 0 rfl) ?_
              refine va_get (D := (dC, dI)) (ci := 5) (v := .int v84_r_r.2.2.1) (C := RX7) (T := TX7) (N := 12) hx hb hts ifX7_advance_X7 hown hK hP 0 rfl rfl 2 (by decide) (hts (.fieldLink RX7 19 "HookPier$Reader" "end" "I") (List.mem_of_getElem? (i := 3) rfl)) (fun _ h9 => h9) rfl dX7_advance_89 ?_
              have J119 : ∀ (H : Heap) (locs : List Loc) (ls : Array Slot), f_X7_advance_J119 v84_r_r = some out → va_P (dC, dI) vwCl (bX7 a0 ur kr v84_r_r []) H → va_D A (bX7 a0 ur kr v84_r_r []) → va_S A s.heap H locs → lv_has ls 1 [(0, .ref a0)] → W p l e (headSpec vfX7_advance { frames := 1, cells := 0, slots := 0, locals := 21 }).room s m ([.ref a0]).toArray below meth c H locs 0 0 QQ (F0 m 119 ls []) := by
                intro  H locs ls h  hP hD hS hl
                rw [f_X7_advance_J119] at h
                refine lv_aload_n hx hb dX7_advance_119 rfl (lv_at hl 0 rfl) ?_
                refine lv_aload_n hx hb dX7_advance_120 rfl (lv_at hl 0 rfl) ?_
                refine va_get (D := (dC, dI)) (ci := 5) (v := .int v84_r_r.2.2.2.2.2.1) (C := RX7) (T := TX7) (N := 12) hx hb hts ifX7_advance_X7 hown hK hP 0 rfl rfl 5 (by decide) (hts (.fieldLink RX7 28 "HookPier$Reader" "behind" "I") (List.mem_of_getElem? (i := 1) rfl)) (fun _ h9 => h9) rfl dX7_advance_121 ?_
                refine lv_aload_n hx hb dX7_advance_124 rfl (lv_at hl 0 rfl) ?_
                refine va_get (D := (dC, dI)) (ci := 5) (v := .int v84_r_r.2.2.2.2.1) (C := RX7) (T := TX7) (N := 12) hx hb hts ifX7_advance_X7 hown hK hP 0 rfl rfl 4 (by decide) (hts (.fieldLink RX7 25 "HookPier$Reader" "start" "I") (List.mem_of_getElem? (i := 2) rfl)) (fun _ h9 => h9) rfl dX7_advance_125 ?_
                refine lv_isub hx hb dX7_advance_128 ?_
                refine lv_bipush (v := 8) hx hb dX7_advance_129 (by decide) ?_
                have J139 : ∀ (v139_t1 : Int32) (H : Heap) (locs : List Loc) (ls : Array Slot), f_X7_advance_J139 v84_r_r v139_t1 = some out → va_P (dC, dI) vwCl (bX7 a0 ur kr v84_r_r []) H → va_D A (bX7 a0 ur kr v84_r_r []) → va_S A s.heap H locs → lv_has ls 1 [] → W p l e (headSpec vfX7_advance { frames := 1, cells := 0, slots := 0, locals := 21 }).room s m ([.ref a0]).toArray below meth c H locs 0 0 QQ (F0 m 139 ls [.int v139_t1, .ref a0]) := by
                  intro v139_t1 H locs ls h  hP hD hS hl
                  rw [f_X7_advance_J139] at h
                  refine va_put (D := (dC, dI)) (ci := 5) (v := .int v139_t1) (ty := .int) (C := RX7) (T := TX7) (N := 12) hx hb hts ifX7_advance_X7 tyX7 tyX7_ok nmX7 hown hK hP hD hS 0 rfl rfl 3 (by decide) (hts (.fieldLink RX7 22 "HookPier$Reader" "token" "I") (List.mem_of_getElem? (i := 8) rfl)) (fun _ h9 => h9) rfl (by decide +kernel) rfl rfl (Nat.le_of_ble_eq_true rfl) dX7_advance_139 (fun H locs hP hD hS => ?_)
                  have hP : va_P (dC, dI) vwCl (bX7 a0 ur kr (v84_r_r.1, v84_r_r.2.1, v84_r_r.2.2.1, v139_t1, v84_r_r.2.2.2.2) []) H := hP
                  have hD : va_D A (bX7 a0 ur kr (v84_r_r.1, v84_r_r.2.1, v84_r_r.2.2.1, v139_t1, v84_r_r.2.2.2.2) []) := hD
                  refine lv_goto (tgt := 249) hx hb dX7_advance_142 (by decide) ?_
                  obtain rfl := Option.some.inj h
                  have hP9 := hP.sub (ws' := (bX7 a0 ur kr (v84_r_r.1, v84_r_r.2.1, v84_r_r.2.2.1, v139_t1, v84_r_r.2.2.2.2) [])) [0, 1, 2, 3] rfl
                  have hD9 := hD.sub (ws' := (bX7 a0 ur kr (v84_r_r.1, v84_r_r.2.1, v84_r_r.2.2.1, v139_t1, v84_r_r.2.2.2.2) [])) [0, 1, 2, 3] (by decide) rfl
                  have hK9 := hK.sub (tys' := []) [] rfl
                  rw [hQQ]
                  exact W.vret hx hb hr (fun t ht hW => ⟨⟨(), rfl, trivial, by rw [ht]; exact hP9, va_K.moved hW.alike hK9, hD9⟩, hS.F ht⟩) hS.2.2 dX7_advance_249
                refine lv_icmp_gt (tgt := 138) hx hb dX7_advance_131 (by decide) (fun c131 => ?_) (fun c131 => ?_)
                · have h := (if_pos c131).symm.trans h
                  refine lv_iconst (v := 4) hx hb dX7_advance_138 (by decide) ?_
                  exact J139 (4 : Int32) H _ ls h  hP hD hS (lv_sub hl [] rfl)
                · have h := (if_neg c131).symm.trans h
                  refine lv_iconst (v := 1) hx hb dX7_advance_134 (by decide) ?_
                  refine lv_goto (tgt := 139) hx hb dX7_advance_135 (by decide) ?_
                  exact J139 (1 : Int32) H _ ls h  hP hD hS (lv_sub hl [] rfl)
              refine lv_icmp_ge (tgt := 119) hx hb dX7_advance_92 (by decide) (fun c92 => ?_) (fun c92 => ?_)
              · have h := (if_pos c92).symm.trans h
                exact J119  H _ ls h  hP hD hS (lv_sub hl [0] rfl)
              · have h := (if_neg c92).symm.trans h
                refine lv_aload_n hx hb dX7_advance_95 rfl (lv_at hl 0 rfl) ?_
                refine lv_aload_n hx hb dX7_advance_96 rfl (lv_at hl 0 rfl) ?_
                refine va_get (D := (dC, dI)) (ci := 5) (v := .int v84_r_r.2.2.2.2.2.1) (C := RX7) (T := TX7) (N := 12) hx hb hts ifX7_advance_X7 hown hK hP 0 rfl rfl 5 (by decide) (hts (.fieldLink RX7 28 "HookPier$Reader" "behind" "I") (List.mem_of_getElem? (i := 1) rfl)) (fun _ h9 => h9) rfl dX7_advance_97 ?_
                obtain ⟨o100, eo100, h⟩ := bd_of h
                refine cl_i (wc := (bX7 a0 ur kr v84_r_r [])) (wr := []) (va_runV (As := [.int v84_r_r.2.2.2.2.2.1]) (rest := []) ⟨hx, hb, hml, hown, hts⟩ (kfX7_isLetter l dC dI a0 v84_r_r.2.2.2.2.2.1 ur kr v84_r_r H.size o100 eo100) (cwV 1 hts gfX7_advance_0 rfl rfl rfl (by decide +kernel) ⟨(Nat.le_of_ble_eq_true rfl), (Nat.le_of_ble_eq_true rfl)⟩) (PV (hP.sub (ws' := (bX7 a0 ur kr v84_r_r [])) [0, 1, 2, 3] rfl) (hK.sub (tys' := (tX7 kr ([]))) [0, 1, 2] rfl) (hD.sub (ws' := (bX7 a0 ur kr v84_r_r [])) [0, 1, 2, 3] (by decide) rfl) hN 0 rfl rfl) rfl rfl hl.1 rfl (lv_room (Nat.le_of_ble_eq_true rfl)) dX7_advance_100 ⟨(Nat.le_of_ble_eq_true rfl), (Nat.le_of_ble_eq_true rfl)⟩) hP hD hK hS hA [0, 1, 2, 3] [] rfl rfl (by decide) (by decide) (fun r100 _ H locs hw hP hD _ hS => ?_)
                obtain ⟨hw, br100⟩ := hw
                obtain rfl := hw.symm
                have hP : va_P (dC, dI) vwCl (bX7 a0 ur kr v84_r_r []) H := hP
                have hD : va_D A (bX7 a0 ur kr v84_r_r []) := hD
                refine lv_if_eq (tgt := 119) hx hb dX7_advance_103 (by decide) (fun c103 => ?_) (fun c103 => ?_)
                · have h := (if_pos c103).symm.trans h
                  exact J119  H _ ls h  hP hD hS (lv_sub hl [0] rfl)
                · have h := (if_neg c103).symm.trans h
                  refine lv_aload_n hx hb dX7_advance_106 rfl (lv_at hl 0 rfl) ?_
                  refine lv_dup hx hb dX7_advance_107 rfl ?_
                  refine va_get (D := (dC, dI)) (ci := 5) (v := .int v84_r_r.2.2.2.2.2.1) (C := RX7) (T := TX7) (N := 12) hx hb hts ifX7_advance_X7 hown hK hP 0 rfl rfl 5 (by decide) (hts (.fieldLink RX7 28 "HookPier$Reader" "behind" "I") (List.mem_of_getElem? (i := 1) rfl)) (fun _ h9 => h9) rfl dX7_advance_108 ?_
                  refine lv_iconst (v := 1) hx hb dX7_advance_111 (by decide) ?_
                  refine lv_iadd hx hb dX7_advance_112 ?_
                  refine va_put (D := (dC, dI)) (ci := 5) (v := .int (v84_r_r.2.2.2.2.2.1 + (1 : Int32))) (ty := .int) (C := RX7) (T := TX7) (N := 12) hx hb hts ifX7_advance_X7 tyX7 tyX7_ok nmX7 hown hK hP hD hS 0 rfl rfl 5 (by decide) (hts (.fieldLink RX7 28 "HookPier$Reader" "behind" "I") (List.mem_of_getElem? (i := 1) rfl)) (fun _ h9 => h9) rfl (by decide +kernel) rfl rfl (Nat.le_of_ble_eq_true rfl) dX7_advance_113 (fun H locs hP hD hS => ?_)
                  have hP : va_P (dC, dI) vwCl (bX7 a0 ur kr (v84_r_r.1, v84_r_r.2.1, v84_r_r.2.2.1, v84_r_r.2.2.2.1, v84_r_r.2.2.2.2.1, (v84_r_r.2.2.2.2.2.1 + (1 : Int32)), v84_r_r.2.2.2.2.2.2) []) H := hP
                  have hD : va_D A (bX7 a0 ur kr (v84_r_r.1, v84_r_r.2.1, v84_r_r.2.2.1, v84_r_r.2.2.2.1, v84_r_r.2.2.2.2.1, (v84_r_r.2.2.2.2.2.1 + (1 : Int32)), v84_r_r.2.2.2.2.2.2) []) := hD
                  refine lv_goto (tgt := 84) hx hb dX7_advance_116 (by decide) ?_
                  exact ih84 (v84_r_r.1, v84_r_r.2.1, v84_r_r.2.2.1, v84_r_r.2.2.2.1, v84_r_r.2.2.2.2.1, (v84_r_r.2.2.2.2.2.1 + (1 : Int32)), v84_r_r.2.2.2.2.2.2) H _ ls h  hP hD hS (lv_sub hl [0] rfl)
          refine lv_if_eq (tgt := 145) hx hb dX7_advance_81 (by decide) (fun c81 => ?_) (fun c81 => ?_)
          · have h := (if_pos c81).symm.trans h
            refine lv_aload_n hx hb dX7_advance_145 rfl (lv_at hl 0 rfl) ?_
            refine lv_aload_n hx hb dX7_advance_146 rfl (lv_at hl 0 rfl) ?_
            refine va_get (D := (dC, dI)) (ci := 5) (v := .int v8_r_r.2.2.2.2.1) (C := RX7) (T := TX7) (N := 12) hx hb hts ifX7_advance_X7 hown hK hP 0 rfl rfl 4 (by decide) (hts (.fieldLink RX7 25 "HookPier$Reader" "start" "I") (List.mem_of_getElem? (i := 2) rfl)) (fun _ h9 => h9) rfl dX7_advance_147 ?_
            obtain ⟨o150, eo150, h⟩ := bd_of h
            refine cl_i (wc := (bX7 a0 ur kr (v8_r_r.1, v8_r_r.2.1, v8_r_r.2.2.1, v8_r_r.2.2.2.1, v8_r_r.2.2.2.2.1, v8_r_r.2.2.2.2.1, v8_r_r.2.2.2.2.2.2) [])) (wr := []) (va_runV (As := [.int v8_r_r.2.2.2.2.1]) (rest := []) ⟨hx, hb, hml, hown, hts⟩ (kfX7_isDigit l dC dI a0 v8_r_r.2.2.2.2.1 ur kr (v8_r_r.1, v8_r_r.2.1, v8_r_r.2.2.1, v8_r_r.2.2.2.1, v8_r_r.2.2.2.2.1, v8_r_r.2.2.2.2.1, v8_r_r.2.2.2.2.2.2) H.size o150 eo150) (cwV 1 hts gfX7_advance_1 rfl rfl rfl (by decide +kernel) ⟨(Nat.le_of_ble_eq_true rfl), (Nat.le_of_ble_eq_true rfl)⟩) (PV (hP.sub (ws' := (bX7 a0 ur kr (v8_r_r.1, v8_r_r.2.1, v8_r_r.2.2.1, v8_r_r.2.2.2.1, v8_r_r.2.2.2.2.1, v8_r_r.2.2.2.2.1, v8_r_r.2.2.2.2.2.2) [])) [0, 1, 2, 3] rfl) (hK.sub (tys' := (tX7 kr ([]))) [0, 1, 2] rfl) (hD.sub (ws' := (bX7 a0 ur kr (v8_r_r.1, v8_r_r.2.1, v8_r_r.2.2.1, v8_r_r.2.2.2.1, v8_r_r.2.2.2.2.1, v8_r_r.2.2.2.2.1, v8_r_r.2.2.2.2.2.2) [])) [0, 1, 2, 3] (by decide) rfl) hN 0 rfl rfl) rfl rfl hl.1 rfl (lv_room (Nat.le_of_ble_eq_true rfl)) dX7_advance_150 ⟨(Nat.le_of_ble_eq_true rfl), (Nat.le_of_ble_eq_true rfl)⟩) hP hD hK hS hA [0, 1, 2, 3] [] rfl rfl (by decide) (by decide) (fun r150 _ H locs hw hP hD _ hS => ?_)
            obtain ⟨hw, br150⟩ := hw
            obtain rfl := hw.symm
            have hP : va_P (dC, dI) vwCl (bX7 a0 ur kr (v8_r_r.1, v8_r_r.2.1, v8_r_r.2.2.1, v8_r_r.2.2.2.1, v8_r_r.2.2.2.2.1, v8_r_r.2.2.2.2.1, v8_r_r.2.2.2.2.2.2) []) H := hP
            have hD : va_D A (bX7 a0 ur kr (v8_r_r.1, v8_r_r.2.1, v8_r_r.2.2.1, v8_r_r.2.2.2.1, v8_r_r.2.2.2.2.1, v8_r_r.2.2.2.2.1, v8_r_r.2.2.2.2.2.2) []) := hD
            have L156 : ∀ (n156 : Nat) (v156_r_r : TX7_r) (H : Heap) (locs : List Loc) (ls : Array Slot), f_X7_advance_L156 n156 v156_r_r = some out → va_P (dC, dI) vwCl (bX7 a0 ur kr v156_r_r []) H → va_D A (bX7 a0 ur kr v156_r_r []) → va_S A s.heap H locs → lv_has ls 1 [(0, .ref a0)] → W p l e (headSpec vfX7_advance { frames := 1, cells := 0, slots := 0, locals := 21 }).room s m ([.ref a0]).toArray below meth c H locs 0 0 QQ (F0 m 156 ls []) := by
              intro n156
              induction n156 with
              | zero =>
                intro v156_r_r H locs ls h  _ _ _ _
                rw [f_X7_advance_L156] at h
                cases h
              | succ n156 ih156 =>
                intro v156_r_r H locs ls h  hP hD hS hl
                rw [f_X7_advance_L156] at h
                refine lv_aload_n hx hb dX7_advance_156 rfl (lv_at hl 0 rfl) ?_
                refine va_get (D := (dC, dI)) (ci := 5) (v := .int v156_r_r.2.2.2.2.2.1) (C := RX7) (T := TX7) (N := 12) hx hb hts ifX7_advance_X7 hown hK hP 0 rfl rfl 5 (by decide) (hts (.fieldLink RX7 28 "HookPier$Reader" "behind" "I") (List.mem_of_getElem? (i := 1) rfl)) (fun _ h9 => h9) rfl dX7_advance_157 ?_
                refine lv_aload_n hx hb dX7_advance_160 rfl (lv_at hl 0 rfl) ?_
                refine va_get (D := (dC, dI)) (ci := 5) (v := .int v156_r_r.2.2.1) (C := RX7) (T := TX7) (N := 12) hx hb hts ifX7_advance_X7 hown hK hP 0 rfl rfl 2 (by decide) (hts (.fieldLink RX7 19 "HookPier$Reader" "end" "I") (List.mem_of_getElem? (i := 3) rfl)) (fun _ h9 => h9) rfl dX7_advance_161 ?_
                have J191 : ∀ (H : Heap) (locs : List Loc) (ls : Array Slot), f_X7_advance_J191 v156_r_r = some out → va_P (dC, dI) vwCl (bX7 a0 ur kr v156_r_r []) H → va_D A (bX7 a0 ur kr v156_r_r []) → va_S A s.heap H locs → lv_has ls 1 [(0, .ref a0)] → W p l e (headSpec vfX7_advance { frames := 1, cells := 0, slots := 0, locals := 21 }).room s m ([.ref a0]).toArray below meth c H locs 0 0 QQ (F0 m 191 ls []) := by
                  intro  H locs ls h  hP hD hS hl
                  rw [f_X7_advance_J191] at h
                  refine lv_aload_n hx hb dX7_advance_191 rfl (lv_at hl 0 rfl) ?_
                  refine lv_aload_n hx hb dX7_advance_192 rfl (lv_at hl 0 rfl) ?_
                  refine va_get (D := (dC, dI)) (ci := 5) (v := .int v156_r_r.2.2.2.2.2.1) (C := RX7) (T := TX7) (N := 12) hx hb hts ifX7_advance_X7 hown hK hP 0 rfl rfl 5 (by decide) (hts (.fieldLink RX7 28 "HookPier$Reader" "behind" "I") (List.mem_of_getElem? (i := 1) rfl)) (fun _ h9 => h9) rfl dX7_advance_193 ?_
                  refine lv_aload_n hx hb dX7_advance_196 rfl (lv_at hl 0 rfl) ?_
                  refine va_get (D := (dC, dI)) (ci := 5) (v := .int v156_r_r.2.2.2.2.1) (C := RX7) (T := TX7) (N := 12) hx hb hts ifX7_advance_X7 hown hK hP 0 rfl rfl 4 (by decide) (hts (.fieldLink RX7 25 "HookPier$Reader" "start" "I") (List.mem_of_getElem? (i := 2) rfl)) (fun _ h9 => h9) rfl dX7_advance_197 ?_
                  refine lv_isub hx hb dX7_advance_200 ?_
                  refine lv_iconst (v := 2) hx hb dX7_advance_201 (by decide) ?_
                  have J210 : ∀ (v210_t1 : Int32) (H : Heap) (locs : List Loc) (ls : Array Slot), f_X7_advance_J210 v156_r_r v210_t1 = some out → va_P (dC, dI) vwCl (bX7 a0 ur kr v156_r_r []) H → va_D A (bX7 a0 ur kr v156_r_r []) → va_S A s.heap H locs → lv_has ls 1 [] → W p l e (headSpec vfX7_advance { frames := 1, cells := 0, slots := 0, locals := 21 }).room s m ([.ref a0]).toArray below meth c H locs 0 0 QQ (F0 m 210 ls [.int v210_t1, .ref a0]) := by
                    intro v210_t1 H locs ls h  hP hD hS hl
                    rw [f_X7_advance_J210] at h
                    refine va_put (D := (dC, dI)) (ci := 5) (v := .int v210_t1) (ty := .int) (C := RX7) (T := TX7) (N := 12) hx hb hts ifX7_advance_X7 tyX7 tyX7_ok nmX7 hown hK hP hD hS 0 rfl rfl 3 (by decide) (hts (.fieldLink RX7 22 "HookPier$Reader" "token" "I") (List.mem_of_getElem? (i := 8) rfl)) (fun _ h9 => h9) rfl (by decide +kernel) rfl rfl (Nat.le_of_ble_eq_true rfl) dX7_advance_210 (fun H locs hP hD hS => ?_)
                    have hP : va_P (dC, dI) vwCl (bX7 a0 ur kr (v156_r_r.1, v156_r_r.2.1, v156_r_r.2.2.1, v210_t1, v156_r_r.2.2.2.2) []) H := hP
                    have hD : va_D A (bX7 a0 ur kr (v156_r_r.1, v156_r_r.2.1, v156_r_r.2.2.1, v210_t1, v156_r_r.2.2.2.2) []) := hD
                    refine lv_goto (tgt := 249) hx hb dX7_advance_213 (by decide) ?_
                    obtain rfl := Option.some.inj h
                    have hP9 := hP.sub (ws' := (bX7 a0 ur kr (v156_r_r.1, v156_r_r.2.1, v156_r_r.2.2.1, v210_t1, v156_r_r.2.2.2.2) [])) [0, 1, 2, 3] rfl
                    have hD9 := hD.sub (ws' := (bX7 a0 ur kr (v156_r_r.1, v156_r_r.2.1, v156_r_r.2.2.1, v210_t1, v156_r_r.2.2.2.2) [])) [0, 1, 2, 3] (by decide) rfl
                    have hK9 := hK.sub (tys' := []) [] rfl
                    rw [hQQ]
                    exact W.vret hx hb hr (fun t ht hW => ⟨⟨(), rfl, trivial, by rw [ht]; exact hP9, va_K.moved hW.alike hK9, hD9⟩, hS.F ht⟩) hS.2.2 dX7_advance_249
                  refine lv_icmp_gt (tgt := 209) hx hb dX7_advance_202 (by decide) (fun c202 => ?_) (fun c202 => ?_)
                  · have h := (if_pos c202).symm.trans h
                    refine lv_iconst (v := 4) hx hb dX7_advance_209 (by decide) ?_
                    exact J210 (4 : Int32) H _ ls h  hP hD hS (lv_sub hl [] rfl)
                  · have h := (if_neg c202).symm.trans h
                    refine lv_iconst (v := 2) hx hb dX7_advance_205 (by decide) ?_
                    refine lv_goto (tgt := 210) hx hb dX7_advance_206 (by decide) ?_
                    exact J210 (2 : Int32) H _ ls h  hP hD hS (lv_sub hl [] rfl)
                refine lv_icmp_ge (tgt := 191) hx hb dX7_advance_164 (by decide) (fun c164 => ?_) (fun c164 => ?_)
                · have h := (if_pos c164).symm.trans h
                  exact J191  H _ ls h  hP hD hS (lv_sub hl [0] rfl)
                · have h := (if_neg c164).symm.trans h
                  refine lv_aload_n hx hb dX7_advance_167 rfl (lv_at hl 0 rfl) ?_
                  refine lv_aload_n hx hb dX7_advance_168 rfl (lv_at hl 0 rfl) ?_
                  refine va_get (D := (dC, dI)) (ci := 5) (v := .int v156_r_r.2.2.2.2.2.1) (C := RX7) (T := TX7) (N := 12) hx hb hts ifX7_advance_X7 hown hK hP 0 rfl rfl 5 (by decide) (hts (.fieldLink RX7 28 "HookPier$Reader" "behind" "I") (List.mem_of_getElem? (i := 1) rfl)) (fun _ h9 => h9) rfl dX7_advance_169 ?_
                  obtain ⟨o172, eo172, h⟩ := bd_of h
                  refine cl_i (wc := (bX7 a0 ur kr v156_r_r [])) (wr := []) (va_runV (As := [.int v156_r_r.2.2.2.2.2.1]) (rest := []) ⟨hx, hb, hml, hown, hts⟩ (kfX7_isDigit l dC dI a0 v156_r_r.2.2.2.2.2.1 ur kr v156_r_r H.size o172 eo172) (cwV 1 hts gfX7_advance_1 rfl rfl rfl (by decide +kernel) ⟨(Nat.le_of_ble_eq_true rfl), (Nat.le_of_ble_eq_true rfl)⟩) (PV (hP.sub (ws' := (bX7 a0 ur kr v156_r_r [])) [0, 1, 2, 3] rfl) (hK.sub (tys' := (tX7 kr ([]))) [0, 1, 2] rfl) (hD.sub (ws' := (bX7 a0 ur kr v156_r_r [])) [0, 1, 2, 3] (by decide) rfl) hN 0 rfl rfl) rfl rfl hl.1 rfl (lv_room (Nat.le_of_ble_eq_true rfl)) dX7_advance_172 ⟨(Nat.le_of_ble_eq_true rfl), (Nat.le_of_ble_eq_true rfl)⟩) hP hD hK hS hA [0, 1, 2, 3] [] rfl rfl (by decide) (by decide) (fun r172 _ H locs hw hP hD _ hS => ?_)
                  obtain ⟨hw, br172⟩ := hw
                  obtain rfl := hw.symm
                  have hP : va_P (dC, dI) vwCl (bX7 a0 ur kr v156_r_r []) H := hP
                  have hD : va_D A (bX7 a0 ur kr v156_r_r []) := hD
                  refine lv_if_eq (tgt := 191) hx hb dX7_advance_175 (by decide) (fun c175 => ?_) (fun c175 => ?_)
                  · have h := (if_pos c175).symm.trans h
                    exact J191  H _ ls h  hP hD hS (lv_sub hl [0] rfl)
                  · have h := (if_neg c175).symm.trans h
                    refine lv_aload_n hx hb dX7_advance_178 rfl (lv_at hl 0 rfl) ?_
                    refine lv_dup hx hb dX7_advance_179 rfl ?_
                    refine va_get (D := (dC, dI)) (ci := 5) (v := .int v156_r_r.2.2.2.2.2.1) (C := RX7) (T := TX7) (N := 12) hx hb hts ifX7_advance_X7 hown hK hP 0 rfl rfl 5 (by decide) (hts (.fieldLink RX7 28 "HookPier$Reader" "behind" "I") (List.mem_of_getElem? (i := 1) rfl)) (fun _ h9 => h9) rfl dX7_advance_180 ?_
                    refine lv_iconst (v := 1) hx hb dX7_advance_183 (by decide) ?_
                    refine lv_iadd hx hb dX7_advance_184 ?_
                    refine va_put (D := (dC, dI)) (ci := 5) (v := .int (v156_r_r.2.2.2.2.2.1 + (1 : Int32))) (ty := .int) (C := RX7) (T := TX7) (N := 12) hx hb hts ifX7_advance_X7 tyX7 tyX7_ok nmX7 hown hK hP hD hS 0 rfl rfl 5 (by decide) (hts (.fieldLink RX7 28 "HookPier$Reader" "behind" "I") (List.mem_of_getElem? (i := 1) rfl)) (fun _ h9 => h9) rfl (by decide +kernel) rfl rfl (Nat.le_of_ble_eq_true rfl) dX7_advance_185 (fun H locs hP hD hS => ?_)
                    have hP : va_P (dC, dI) vwCl (bX7 a0 ur kr (v156_r_r.1, v156_r_r.2.1, v156_r_r.2.2.1, v156_r_r.2.2.2.1, v156_r_r.2.2.2.2.1, (v156_r_r.2.2.2.2.2.1 + (1 : Int32)), v156_r_r.2.2.2.2.2.2) []) H := hP
                    have hD : va_D A (bX7 a0 ur kr (v156_r_r.1, v156_r_r.2.1, v156_r_r.2.2.1, v156_r_r.2.2.2.1, v156_r_r.2.2.2.2.1, (v156_r_r.2.2.2.2.2.1 + (1 : Int32)), v156_r_r.2.2.2.2.2.2) []) := hD
                    refine lv_goto (tgt := 156) hx hb dX7_advance_188 (by decide) ?_
                    exact ih156 (v156_r_r.1, v156_r_r.2.1, v156_r_r.2.2.1, v156_r_r.2.2.2.1, v156_r_r.2.2.2.2.1, (v156_r_r.2.2.2.2.2.1 + (1 : Int32)), v156_r_r.2.2.2.2.2.2) H _ ls h  hP hD hS (lv_sub hl [0] rfl)
            refine lv_if_eq (tgt := 216) hx hb dX7_advance_153 (by decide) (fun c153 => ?_) (fun c153 => ?_)
            · have h := (if_pos c153).symm.trans h
              refine lv_aload_n hx hb dX7_advance_216 rfl (lv_at hl 0 rfl) ?_
              refine lv_aload_n hx hb dX7_advance_217 rfl (lv_at hl 0 rfl) ?_
              refine va_get (D := (dC, dI)) (ci := 5) (v := .ref (ur 0)) (C := RX7) (T := TX7) (N := 12) hx hb hts ifX7_advance_X7 hown hK hP 0 rfl rfl 0 (by decide) (hts (.fieldLink RX7 9 "HookPier$Reader" "text" "[B") (List.mem_of_getElem? (i := 12) rfl)) (fun _ h9 => h9) rfl dX7_advance_218 ?_
              refine lv_aload_n hx hb dX7_advance_221 rfl (lv_at hl 0 rfl) ?_
              refine va_get (D := (dC, dI)) (ci := 5) (v := .int v8_r_r.2.2.2.2.1) (C := RX7) (T := TX7) (N := 12) hx hb hts ifX7_advance_X7 hown hK hP 0 rfl rfl 4 (by decide) (hts (.fieldLink RX7 25 "HookPier$Reader" "start" "I") (List.mem_of_getElem? (i := 2) rfl)) (fun _ h9 => h9) rfl dX7_advance_222 ?_
              obtain ⟨hg225, h⟩ := gA_of h
              refine va_bald hx hb hK hP 1 0 rfl rfl hg225 dX7_advance_225 ?_
              refine lv_bipush (v := 59) hx hb dX7_advance_226 (by decide) ?_
              have J236 : ∀ (v236_t1 : Int32) (H : Heap) (locs : List Loc) (ls : Array Slot), f_X7_advance_J236 v8_r_r v236_t1 = some out → va_P (dC, dI) vwCl (bX7 a0 ur kr (v8_r_r.1, v8_r_r.2.1, v8_r_r.2.2.1, v8_r_r.2.2.2.1, v8_r_r.2.2.2.2.1, v8_r_r.2.2.2.2.1, v8_r_r.2.2.2.2.2.2) []) H → va_D A (bX7 a0 ur kr (v8_r_r.1, v8_r_r.2.1, v8_r_r.2.2.1, v8_r_r.2.2.2.1, v8_r_r.2.2.2.2.1, v8_r_r.2.2.2.2.1, v8_r_r.2.2.2.2.2.2) []) → va_S A s.heap H locs → lv_has ls 1 [(0, .ref a0)] → W p l e (headSpec vfX7_advance { frames := 1, cells := 0, slots := 0, locals := 21 }).room s m ([.ref a0]).toArray below meth c H locs 0 0 QQ (F0 m 236 ls [.int v236_t1, .ref a0]) := by
                intro v236_t1 H locs ls h  hP hD hS hl
                rw [f_X7_advance_J236] at h
                refine va_put (D := (dC, dI)) (ci := 5) (v := .int v236_t1) (ty := .int) (C := RX7) (T := TX7) (N := 12) hx hb hts ifX7_advance_X7 tyX7 tyX7_ok nmX7 hown hK hP hD hS 0 rfl rfl 3 (by decide) (hts (.fieldLink RX7 22 "HookPier$Reader" "token" "I") (List.mem_of_getElem? (i := 8) rfl)) (fun _ h9 => h9) rfl (by decide +kernel) rfl rfl (Nat.le_of_ble_eq_true rfl) dX7_advance_236 (fun H locs hP hD hS => ?_)
                have hP : va_P (dC, dI) vwCl (bX7 a0 ur kr (v8_r_r.1, v8_r_r.2.1, v8_r_r.2.2.1, v236_t1, v8_r_r.2.2.2.2.1, v8_r_r.2.2.2.2.1, v8_r_r.2.2.2.2.2.2) []) H := hP
                have hD : va_D A (bX7 a0 ur kr (v8_r_r.1, v8_r_r.2.1, v8_r_r.2.2.1, v236_t1, v8_r_r.2.2.2.2.1, v8_r_r.2.2.2.2.1, v8_r_r.2.2.2.2.2.2) []) := hD
                refine lv_aload_n hx hb dX7_advance_239 rfl (lv_at hl 0 rfl) ?_
                refine lv_dup hx hb dX7_advance_240 rfl ?_
                refine va_get (D := (dC, dI)) (ci := 5) (v := .int v8_r_r.2.2.2.2.1) (C := RX7) (T := TX7) (N := 12) hx hb hts ifX7_advance_X7 hown hK hP 0 rfl rfl 5 (by decide) (hts (.fieldLink RX7 28 "HookPier$Reader" "behind" "I") (List.mem_of_getElem? (i := 1) rfl)) (fun _ h9 => h9) rfl dX7_advance_241 ?_
                refine lv_iconst (v := 1) hx hb dX7_advance_244 (by decide) ?_
                refine lv_iadd hx hb dX7_advance_245 ?_
                refine va_put (D := (dC, dI)) (ci := 5) (v := .int (v8_r_r.2.2.2.2.1 + (1 : Int32))) (ty := .int) (C := RX7) (T := TX7) (N := 12) hx hb hts ifX7_advance_X7 tyX7 tyX7_ok nmX7 hown hK hP hD hS 0 rfl rfl 5 (by decide) (hts (.fieldLink RX7 28 "HookPier$Reader" "behind" "I") (List.mem_of_getElem? (i := 1) rfl)) (fun _ h9 => h9) rfl (by decide +kernel) rfl rfl (Nat.le_of_ble_eq_true rfl) dX7_advance_246 (fun H locs hP hD hS => ?_)
                have hP : va_P (dC, dI) vwCl (bX7 a0 ur kr (v8_r_r.1, v8_r_r.2.1, v8_r_r.2.2.1, v236_t1, v8_r_r.2.2.2.2.1, (v8_r_r.2.2.2.2.1 + (1 : Int32)), v8_r_r.2.2.2.2.2.2) []) H := hP
                have hD : va_D A (bX7 a0 ur kr (v8_r_r.1, v8_r_r.2.1, v8_r_r.2.2.1, v236_t1, v8_r_r.2.2.2.2.1, (v8_r_r.2.2.2.2.1 + (1 : Int32)), v8_r_r.2.2.2.2.2.2) []) := hD
                obtain rfl := Option.some.inj h
                have hP9 := hP.sub (ws' := (bX7 a0 ur kr (v8_r_r.1, v8_r_r.2.1, v8_r_r.2.2.1, v236_t1, v8_r_r.2.2.2.2.1, (v8_r_r.2.2.2.2.1 + (1 : Int32)), v8_r_r.2.2.2.2.2.2) [])) [0, 1, 2, 3] rfl
                have hD9 := hD.sub (ws' := (bX7 a0 ur kr (v8_r_r.1, v8_r_r.2.1, v8_r_r.2.2.1, v236_t1, v8_r_r.2.2.2.2.1, (v8_r_r.2.2.2.2.1 + (1 : Int32)), v8_r_r.2.2.2.2.2.2) [])) [0, 1, 2, 3] (by decide) rfl
                have hK9 := hK.sub (tys' := []) [] rfl
                rw [hQQ]
                exact W.vret hx hb hr (fun t ht hW => ⟨⟨(), rfl, trivial, by rw [ht]; exact hP9, va_K.moved hW.alike hK9, hD9⟩, hS.F ht⟩) hS.2.2 dX7_advance_249
              refine lv_icmp_ne (tgt := 235) hx hb dX7_advance_228 (by decide) (fun c228 => ?_) (fun c228 => ?_)
              · have h := (if_neg c228).symm.trans h
                refine lv_iconst (v := 4) hx hb dX7_advance_235 (by decide) ?_
                exact J236 (4 : Int32) H _ ls h  hP hD hS (lv_sub hl [0] rfl)
              · have h := (if_pos c228).symm.trans h
                refine lv_iconst (v := 3) hx hb dX7_advance_231 (by decide) ?_
                refine lv_goto (tgt := 236) hx hb dX7_advance_232 (by decide) ?_
                exact J236 (3 : Int32) H _ ls h  hP hD hS (lv_sub hl [0] rfl)
            · have h := (if_neg c153).symm.trans h
              exact L156 FU (v8_r_r.1, v8_r_r.2.1, v8_r_r.2.2.1, v8_r_r.2.2.2.1, v8_r_r.2.2.2.2.1, v8_r_r.2.2.2.2.1, v8_r_r.2.2.2.2.2.2) H _ ls h  hP hD hS (lv_sub hl [0] rfl)
          · have h := (if_neg c81).symm.trans h
            exact L84 FU (v8_r_r.1, v8_r_r.2.1, v8_r_r.2.2.1, v8_r_r.2.2.2.1, v8_r_r.2.2.2.2.1, v8_r_r.2.2.2.2.1, v8_r_r.2.2.2.2.2.2) H _ ls h  hP hD hS (lv_sub hl [0] rfl)
        · have h := (if_neg c62).symm.trans h
          refine lv_aload_n hx hb dX7_advance_65 rfl (lv_at hl 0 rfl) ?_
          refine lv_iconst (v := 0) hx hb dX7_advance_66 (by decide) ?_
          refine va_put (D := (dC, dI)) (ci := 5) (v := .int 0) (ty := .int) (C := RX7) (T := TX7) (N := 12) hx hb hts ifX7_advance_X7 tyX7 tyX7_ok nmX7 hown hK hP hD hS 0 rfl rfl 3 (by decide) (hts (.fieldLink RX7 22 "HookPier$Reader" "token" "I") (List.mem_of_getElem? (i := 8) rfl)) (fun _ h9 => h9) rfl (by decide +kernel) rfl rfl (Nat.le_of_ble_eq_true rfl) dX7_advance_67 (fun H locs hP hD hS => ?_)
          have hP : va_P (dC, dI) vwCl (bX7 a0 ur kr (v8_r_r.1, v8_r_r.2.1, v8_r_r.2.2.1, (0 : Int32), v8_r_r.2.2.2.2.1, v8_r_r.2.2.2.2.1, v8_r_r.2.2.2.2.2.2) []) H := hP
          have hD : va_D A (bX7 a0 ur kr (v8_r_r.1, v8_r_r.2.1, v8_r_r.2.2.1, (0 : Int32), v8_r_r.2.2.2.2.1, v8_r_r.2.2.2.2.1, v8_r_r.2.2.2.2.2.2) []) := hD
          refine lv_goto (tgt := 249) hx hb dX7_advance_70 (by decide) ?_
          obtain rfl := Option.some.inj h
          have hP9 := hP.sub (ws' := (bX7 a0 ur kr (v8_r_r.1, v8_r_r.2.1, v8_r_r.2.2.1, (0 : Int32), v8_r_r.2.2.2.2.1, v8_r_r.2.2.2.2.1, v8_r_r.2.2.2.2.2.2) [])) [0, 1, 2, 3] rfl
          have hD9 := hD.sub (ws' := (bX7 a0 ur kr (v8_r_r.1, v8_r_r.2.1, v8_r_r.2.2.1, (0 : Int32), v8_r_r.2.2.2.2.1, v8_r_r.2.2.2.2.1, v8_r_r.2.2.2.2.2.2) [])) [0, 1, 2, 3] (by decide) rfl
          have hK9 := hK.sub (tys' := []) [] rfl
          rw [hQQ]
          exact W.vret hx hb hr (fun t ht hW => ⟨⟨(), rfl, trivial, by rw [ht]; exact hP9, va_K.moved hW.alike hK9, hD9⟩, hS.F ht⟩) hS.2.2 dX7_advance_249
      refine lv_icmp_ge (tgt := 46) hx hb dX7_advance_16 (by decide) (fun c16 => ?_) (fun c16 => ?_)
      · have h := (if_pos c16).symm.trans h
        exact J46  H _ ls h  hP hD hS (lv_sub hl [0] rfl)
      · have h := (if_neg c16).symm.trans h
        refine lv_aload_n hx hb dX7_advance_19 rfl (lv_at hl 0 rfl) ?_
        refine va_get (D := (dC, dI)) (ci := 5) (v := .ref (ur 0)) (C := RX7) (T := TX7) (N := 12) hx hb hts ifX7_advance_X7 hown hK hP 0 rfl rfl 0 (by decide) (hts (.fieldLink RX7 9 "HookPier$Reader" "text" "[B") (List.mem_of_getElem? (i := 12) rfl)) (fun _ h9 => h9) rfl dX7_advance_20 ?_
        refine lv_aload_n hx hb dX7_advance_23 rfl (lv_at hl 0 rfl) ?_
        refine va_get (D := (dC, dI)) (ci := 5) (v := .int v8_r_r.2.2.2.2.1) (C := RX7) (T := TX7) (N := 12) hx hb hts ifX7_advance_X7 hown hK hP 0 rfl rfl 4 (by decide) (hts (.fieldLink RX7 25 "HookPier$Reader" "start" "I") (List.mem_of_getElem? (i := 2) rfl)) (fun _ h9 => h9) rfl dX7_advance_24 ?_
        obtain ⟨hg27, h⟩ := gA_of h
        refine va_bald hx hb hK hP 1 0 rfl rfl hg27 dX7_advance_27 ?_
        refine lv_bipush (v := 32) hx hb dX7_advance_28 (by decide) ?_
        refine lv_icmp_ne (tgt := 46) hx hb dX7_advance_30 (by decide) (fun c30 => ?_) (fun c30 => ?_)
        · have h := (if_neg c30).symm.trans h
          exact J46  H _ ls h  hP hD hS (lv_sub hl [0] rfl)
        · have h := (if_pos c30).symm.trans h
          refine lv_aload_n hx hb dX7_advance_33 rfl (lv_at hl 0 rfl) ?_
          refine lv_dup hx hb dX7_advance_34 rfl ?_
          refine va_get (D := (dC, dI)) (ci := 5) (v := .int v8_r_r.2.2.2.2.1) (C := RX7) (T := TX7) (N := 12) hx hb hts ifX7_advance_X7 hown hK hP 0 rfl rfl 4 (by decide) (hts (.fieldLink RX7 25 "HookPier$Reader" "start" "I") (List.mem_of_getElem? (i := 2) rfl)) (fun _ h9 => h9) rfl dX7_advance_35 ?_
          refine lv_iconst (v := 1) hx hb dX7_advance_38 (by decide) ?_
          refine lv_iadd hx hb dX7_advance_39 ?_
          refine va_put (D := (dC, dI)) (ci := 5) (v := .int (v8_r_r.2.2.2.2.1 + (1 : Int32))) (ty := .int) (C := RX7) (T := TX7) (N := 12) hx hb hts ifX7_advance_X7 tyX7 tyX7_ok nmX7 hown hK hP hD hS 0 rfl rfl 4 (by decide) (hts (.fieldLink RX7 25 "HookPier$Reader" "start" "I") (List.mem_of_getElem? (i := 2) rfl)) (fun _ h9 => h9) rfl (by decide +kernel) rfl rfl (Nat.le_of_ble_eq_true rfl) dX7_advance_40 (fun H locs hP hD hS => ?_)
          have hP : va_P (dC, dI) vwCl (bX7 a0 ur kr (v8_r_r.1, v8_r_r.2.1, v8_r_r.2.2.1, v8_r_r.2.2.2.1, (v8_r_r.2.2.2.2.1 + (1 : Int32)), v8_r_r.2.2.2.2.2) []) H := hP
          have hD : va_D A (bX7 a0 ur kr (v8_r_r.1, v8_r_r.2.1, v8_r_r.2.2.1, v8_r_r.2.2.2.1, (v8_r_r.2.2.2.2.1 + (1 : Int32)), v8_r_r.2.2.2.2.2) []) := hD
          refine lv_goto (tgt := 8) hx hb dX7_advance_43 (by decide) ?_
          exact ih8 (v8_r_r.1, v8_r_r.2.1, v8_r_r.2.2.1, v8_r_r.2.2.2.1, (v8_r_r.2.2.2.2.1 + (1 : Int32)), v8_r_r.2.2.2.2.2) H _ ls h  hP hD hS (lv_sub hl [0] rfl)
  exact L8 FU (r_r.1, r_r.2.1, r_r.2.2.1, r_r.2.2.2.1, r_r.2.2.2.2.2.1, r_r.2.2.2.2.2) H _ ls h  hP hD hS (lv_sub hl [0] rfl)
theorem dX7_fail_0 : decode cX7_fail 0 = .ok (.aload_n 0, 1) := by decide +kernel
theorem dX7_fail_1 : decode cX7_fail 1 = .ok (.iload_n 1, 1) := by decide +kernel
theorem dX7_fail_10 : decode cX7_fail 10 = .ok (.putfield 48, 3) := by decide +kernel
theorem dX7_fail_13 : decode cX7_fail 13 = .ok (.iconst 0, 1) := by decide +kernel
theorem dX7_fail_14 : decode cX7_fail 14 = .ok (.ireturn, 1) := by decide +kernel
theorem dX7_fail_2 : decode cX7_fail 2 = .ok (.putfield 45, 3) := by decide +kernel
theorem dX7_fail_5 : decode cX7_fail 5 = .ok (.aload_n 0, 1) := by decide +kernel
theorem dX7_fail_6 : decode cX7_fail 6 = .ok (.aload_n 0, 1) := by decide +kernel
theorem dX7_fail_7 : decode cX7_fail 7 = .ok (.getfield 25, 3) := by decide +kernel
def vfX7_fail : List Cond := List.cons (.code yX7_fail cX7_fail 2 (some .boolean)) (apW [.fieldLink RX7 45 "HookPier$Reader" "fault" "I", .fieldLink RX7 25 "HookPier$Reader" "start" "I", .fieldLink RX7 48 "HookPier$Reader" "place" "I"] (wsX70))
theorem ifX7_fail_X7 : ∀ w ∈ wsX70, w ∈ vfX7_fail := fun _ h => (List.mem_cons_of_mem _ (List.mem_append_right _ h))
theorem qfX7_fail : Good vfX7_fail := gd_cons (by decide +kernel) (gd_app (gd_dec (by decide +kernel) : Good [.fieldLink RX7 45 "HookPier$Reader" "fault" "I", .fieldLink RX7 25 "HookPier$Reader" "start" "I", .fieldLink RX7 48 "HookPier$Reader" "place" "I"]) qsX7)
set_option maxHeartbeats 2000000 in
set_option maxRecDepth 100000 in
theorem kfX7_fail (l : Launch) (dC : Nat → ClassId) (dI : Nat → Nat → Nat) (a0 : Nat) (k1 : Int32) (ur : Nat → Nat) (kr : Nat → ClassId) (r_r : TX7_r) (sz : Nat) (out : TX7_r) (h : f_X7_fail k1 r_r = out) : Met l yX7_fail vfX7_fail ({ frames := 0, cells := 0, slots := 0, locals := 0 }) (PC (dC, dI) [.ref a0, .int k1] sz (bX7 a0 ur kr r_r []) (tX7 kr ([]))) (va_Qi (S := Unit) (fun (r : Int32) _ => r = 0 ∧ (0 ≤ r.toInt ∧ r.toInt ≤ 1)) (fun _ t => BC (dC, dI) (va_A (bX7 a0 ur kr r_r []) sz) (bX7 a0 ur kr out []) [] t) (va_A (bX7 a0 ur kr r_r []) sz)) 0 0 (va_A (bX7 a0 ur kr r_r []) sz) := by
  refine Met.ofW (cc := cX7_fail) (maxL := 2) (ret := (some .boolean)) (by decide) rfl ?_
  intro p e s m args below meth c s₁ B0 hml hv
  obtain ⟨rfl, hsz, hP, hK, hD0, hN⟩ := hv
  have hx := B0.exec
  have hb := B0.bytes
  have hr := B0.returns
  have hts := atoms_spec (ws := vfX7_fail) B0.pre
  have hown : s.vm.findClass RX7 = some m.cls := findClass_of_methodNamed B0.named
  have hlocks := B0.notSynchronized
  subst hsz
  have hD := hD0.self (sz := s.heap.size)
  generalize hAe : va_A (bX7 a0 ur kr r_r []) s.heap.size = A at hD ⊢
  have hA : ∀ q : Nat, s.heap.size ≤ q → A q := fun q h => by rw [← hAe]; exact Or.inr h
  have hS : va_S A s.heap s.heap [] := va_S.rf
  have hP : va_P (dC, dI) vwCl (bX7 a0 ur kr r_r []) s.heap := hP
  have hl := lv_entry ([.ref a0, .int k1]) (n := 2) (Nat.le_of_ble_eq_true rfl)
  rw [lg_entry_eq]
  generalize (lg_sl ([.ref a0, .int k1]) ++ List.replicate (2 - (lg_sl ([.ref a0, .int k1])).length) Slot.unset).toArray = ls at hl ⊢
  have hl : lv_has ls 2 [(0, .ref a0), (1, .int k1)] := hl
  refine W_q (fun QQ hQQ => ?_)
  rw [f_X7_fail] at h
  refine lv_aload_n hx hb dX7_fail_0 rfl (lv_at hl 0 rfl) ?_
  refine lv_iload_n hx hb dX7_fail_1 rfl (lv_at hl 1 rfl) ?_
  refine va_put (D := (dC, dI)) (ci := 5) (v := .int k1) (ty := .int) (C := RX7) (T := TX7) (N := 12) hx hb hts ifX7_fail_X7 tyX7 tyX7_ok nmX7 hown hK hP hD hS 0 rfl rfl 10 (by decide) (hts (.fieldLink RX7 45 "HookPier$Reader" "fault" "I") (List.mem_of_getElem? (i := 1) rfl)) (fun _ h9 => h9) rfl (by decide +kernel) rfl rfl (Nat.le_of_ble_eq_true rfl) dX7_fail_2 (fun H locs hP hD hS => ?_)
  have hP : va_P (dC, dI) vwCl (bX7 a0 ur kr (r_r.1, r_r.2.1, r_r.2.2.1, r_r.2.2.2.1, r_r.2.2.2.2.1, r_r.2.2.2.2.2.1, r_r.2.2.2.2.2.2.1, r_r.2.2.2.2.2.2.2.1, r_r.2.2.2.2.2.2.2.2.1, r_r.2.2.2.2.2.2.2.2.2.1, k1, r_r.2.2.2.2.2.2.2.2.2.2.2) []) H := hP
  have hD : va_D A (bX7 a0 ur kr (r_r.1, r_r.2.1, r_r.2.2.1, r_r.2.2.2.1, r_r.2.2.2.2.1, r_r.2.2.2.2.2.1, r_r.2.2.2.2.2.2.1, r_r.2.2.2.2.2.2.2.1, r_r.2.2.2.2.2.2.2.2.1, r_r.2.2.2.2.2.2.2.2.2.1, k1, r_r.2.2.2.2.2.2.2.2.2.2.2) []) := hD
  refine lv_aload_n hx hb dX7_fail_5 rfl (lv_at hl 0 rfl) ?_
  refine lv_aload_n hx hb dX7_fail_6 rfl (lv_at hl 0 rfl) ?_
  refine va_get (D := (dC, dI)) (ci := 5) (v := .int r_r.2.2.2.2.1) (C := RX7) (T := TX7) (N := 12) hx hb hts ifX7_fail_X7 hown hK hP 0 rfl rfl 4 (by decide) (hts (.fieldLink RX7 25 "HookPier$Reader" "start" "I") (List.mem_of_getElem? (i := 2) rfl)) (fun _ h9 => h9) rfl dX7_fail_7 ?_
  refine va_put (D := (dC, dI)) (ci := 5) (v := .int r_r.2.2.2.2.1) (ty := .int) (C := RX7) (T := TX7) (N := 12) hx hb hts ifX7_fail_X7 tyX7 tyX7_ok nmX7 hown hK hP hD hS 0 rfl rfl 11 (by decide) (hts (.fieldLink RX7 48 "HookPier$Reader" "place" "I") (List.mem_of_getElem? (i := 3) rfl)) (fun _ h9 => h9) rfl (by decide +kernel) rfl rfl (Nat.le_of_ble_eq_true rfl) dX7_fail_10 (fun H locs hP hD hS => ?_)
  have hP : va_P (dC, dI) vwCl (bX7 a0 ur kr (r_r.1, r_r.2.1, r_r.2.2.1, r_r.2.2.2.1, r_r.2.2.2.2.1, r_r.2.2.2.2.2.1, r_r.2.2.2.2.2.2.1, r_r.2.2.2.2.2.2.2.1, r_r.2.2.2.2.2.2.2.2.1, r_r.2.2.2.2.2.2.2.2.2.1, k1, r_r.2.2.2.2.1) []) H := hP
  have hD : va_D A (bX7 a0 ur kr (r_r.1, r_r.2.1, r_r.2.2.1, r_r.2.2.2.1, r_r.2.2.2.2.1, r_r.2.2.2.2.2.1, r_r.2.2.2.2.2.2.1, r_r.2.2.2.2.2.2.2.1, r_r.2.2.2.2.2.2.2.2.1, r_r.2.2.2.2.2.2.2.2.2.1, k1, r_r.2.2.2.2.1) []) := hD
  refine lv_iconst (v := 0) hx hb dX7_fail_13 (by decide) ?_
  obtain rfl := h
  have hP9 := hP.sub (ws' := (bX7 a0 ur kr (r_r.1, r_r.2.1, r_r.2.2.1, r_r.2.2.2.1, r_r.2.2.2.2.1, r_r.2.2.2.2.2.1, r_r.2.2.2.2.2.2.1, r_r.2.2.2.2.2.2.2.1, r_r.2.2.2.2.2.2.2.2.1, r_r.2.2.2.2.2.2.2.2.2.1, k1, r_r.2.2.2.2.1) [])) [0, 1, 2, 3] rfl
  have hD9 := hD.sub (ws' := (bX7 a0 ur kr (r_r.1, r_r.2.1, r_r.2.2.1, r_r.2.2.2.1, r_r.2.2.2.2.1, r_r.2.2.2.2.2.1, r_r.2.2.2.2.2.2.1, r_r.2.2.2.2.2.2.2.1, r_r.2.2.2.2.2.2.2.2.1, r_r.2.2.2.2.2.2.2.2.2.1, k1, r_r.2.2.2.2.1) [])) [0, 1, 2, 3] (by decide) rfl
  have hK9 := hK.sub (tys' := []) [] rfl
  rw [hQQ]
  exact W.zret (v := (0 : Int32)) hx hb hr rfl (fun t ht hW => ⟨⟨(0 : Int32), (), rfl, ⟨rfl, (by decide)⟩, by rw [ht]; exact hP9, va_K.moved hW.alike hK9, hD9⟩, hS.F ht⟩) hS.2.2 dX7_fail_14
theorem dX10_within_0 : decode cX10_within 0 = .ok (.iload_n 0, 1) := by decide +kernel
theorem dX10_within_1 : decode cX10_within 1 = .ok (.iload_n 1, 1) := by decide +kernel
theorem dX10_within_10 : decode cX10_within 10 = .ok (.iconst 1, 1) := by decide +kernel
theorem dX10_within_11 : decode cX10_within 11 = .ok (.goto 4, 3) := by decide +kernel
theorem dX10_within_14 : decode cX10_within 14 = .ok (.iconst 0, 1) := by decide +kernel
theorem dX10_within_15 : decode cX10_within 15 = .ok (.ireturn, 1) := by decide +kernel
theorem dX10_within_2 : decode cX10_within 2 = .ok (.if_icmp .lt 12, 3) := by decide +kernel
theorem dX10_within_5 : decode cX10_within 5 = .ok (.iload_n 0, 1) := by decide +kernel
theorem dX10_within_6 : decode cX10_within 6 = .ok (.iload_n 2, 1) := by decide +kernel
theorem dX10_within_7 : decode cX10_within 7 = .ok (.if_icmp .gt 7, 3) := by decide +kernel
def vfX10_within : List Cond := .code yX10_within cX10_within 3 (some .boolean) :: ([])
theorem qfX10_within : Good vfX10_within := gd_cons (by decide +kernel) (gd_dec (by decide +kernel) : Good [])
set_option maxHeartbeats 2000000 in
set_option maxRecDepth 100000 in
theorem kfX10_within (l : Launch) (dC : Nat → ClassId) (dI : Nat → Nat → Nat) (k0 : Int32) (k1 : Int32) (k2 : Int32) (sz : Nat) (out : Int32) (h : f_X10_within k0 k1 k2 = out) : Met l yX10_within vfX10_within ({ frames := 0, cells := 0, slots := 0, locals := 0 }) (PC (dC, dI) [.int k0, .int k1, .int k2] sz [] ([])) (va_Qi (S := Unit) (fun (r : Int32) _ => r = out ∧ (0 ≤ r.toInt ∧ r.toInt ≤ 1)) (fun _ t => BC (dC, dI) (va_A [] sz) [] [] t) (va_A [] sz)) 0 0 (va_A [] sz) := by
  refine Met.ofW (cc := cX10_within) (maxL := 3) (ret := (some .boolean)) (by decide) rfl ?_
  intro p e s m args below meth c s₁ B0 hml hv
  obtain ⟨rfl, hsz, hP, hK, hD0, hN⟩ := hv
  have hx := B0.exec
  have hb := B0.bytes
  have hr := B0.returns
  have hts := atoms_spec (ws := vfX10_within) B0.pre
  have hown : s.vm.findClass RX10 = some m.cls := findClass_of_methodNamed B0.named
  have hlocks := B0.notSynchronized
  subst hsz
  have hD := hD0.self (sz := s.heap.size)
  generalize hAe : va_A [] s.heap.size = A at hD ⊢
  have hA : ∀ q : Nat, s.heap.size ≤ q → A q := fun q h => by rw [← hAe]; exact Or.inr h
  have hS : va_S A s.heap s.heap [] := va_S.rf
  have hP : va_P (dC, dI) vwCl [] s.heap := hP
  have hl := lv_entry ([.int k0, .int k1, .int k2]) (n := 3) (Nat.le_of_ble_eq_true rfl)
  rw [lg_entry_eq]
  generalize (lg_sl ([.int k0, .int k1, .int k2]) ++ List.replicate (3 - (lg_sl ([.int k0, .int k1, .int k2])).length) Slot.unset).toArray = ls at hl ⊢
  have hl : lv_has ls 3 [(0, .int k0), (1, .int k1), (2, .int k2)] := hl
  refine W_q (fun QQ hQQ => ?_)
  rw [f_X10_within] at h
  refine lv_iload_n hx hb dX10_within_0 rfl (lv_at hl 0 rfl) ?_
  refine lv_iload_n hx hb dX10_within_1 rfl (lv_at hl 1 rfl) ?_
  refine lv_icmp_lt (tgt := 14) hx hb dX10_within_2 (by decide) (fun c2 => ?_) (fun c2 => ?_)
  · have h := (if_pos c2).symm.trans h
    refine lv_iconst (v := 0) hx hb dX10_within_14 (by decide) ?_
    obtain rfl := h
    have hP9 := hP.sub (ws' := []) [] rfl
    have hD9 := hD.sub (ws' := []) [] (by decide) rfl
    have hK9 := hK.sub (tys' := []) [] rfl
    rw [hQQ]
    exact W.zret (v := (0 : Int32)) hx hb hr rfl (fun t ht hW => ⟨⟨(0 : Int32), (), rfl, ⟨rfl, (by decide)⟩, by rw [ht]; exact hP9, va_K.moved hW.alike hK9, hD9⟩, hS.F ht⟩) hS.2.2 dX10_within_15
  · have h := (if_neg c2).symm.trans h
    refine lv_iload_n hx hb dX10_within_5 rfl (lv_at hl 0 rfl) ?_
    refine lv_iload_n hx hb dX10_within_6 rfl (lv_at hl 2 rfl) ?_
    refine lv_icmp_gt (tgt := 14) hx hb dX10_within_7 (by decide) (fun c7 => ?_) (fun c7 => ?_)
    · have h := (if_pos c7).symm.trans h
      refine lv_iconst (v := 0) hx hb dX10_within_14 (by decide) ?_
      obtain rfl := h
      have hP9 := hP.sub (ws' := []) [] rfl
      have hD9 := hD.sub (ws' := []) [] (by decide) rfl
      have hK9 := hK.sub (tys' := []) [] rfl
      rw [hQQ]
      exact W.zret (v := (0 : Int32)) hx hb hr rfl (fun t ht hW => ⟨⟨(0 : Int32), (), rfl, ⟨rfl, (by decide)⟩, by rw [ht]; exact hP9, va_K.moved hW.alike hK9, hD9⟩, hS.F ht⟩) hS.2.2 dX10_within_15
    · have h := (if_neg c7).symm.trans h
      refine lv_iconst (v := 1) hx hb dX10_within_10 (by decide) ?_
      refine lv_goto (tgt := 15) hx hb dX10_within_11 (by decide) ?_
      obtain rfl := h
      have hP9 := hP.sub (ws' := []) [] rfl
      have hD9 := hD.sub (ws' := []) [] (by decide) rfl
      have hK9 := hK.sub (tys' := []) [] rfl
      rw [hQQ]
      exact W.zret (v := (1 : Int32)) hx hb hr rfl (fun t ht hW => ⟨⟨(1 : Int32), (), rfl, ⟨rfl, (by decide)⟩, by rw [ht]; exact hP9, va_K.moved hW.alike hK9, hD9⟩, hS.F ht⟩) hS.2.2 dX10_within_15
theorem dX7_takeWhole_0 : decode cX7_takeWhole 0 = .ok (.aload_n 0, 1) := by decide +kernel
theorem dX7_takeWhole_1 : decode cX7_takeWhole 1 = .ok (.getfield 22, 3) := by decide +kernel
theorem dX7_takeWhole_10 : decode cX7_takeWhole 10 = .ok (.invokevirtual 72, 3) := by decide +kernel
theorem dX7_takeWhole_13 : decode cX7_takeWhole 13 = .ok (.ireturn, 1) := by decide +kernel
theorem dX7_takeWhole_14 : decode cX7_takeWhole 14 = .ok (.iconst 0, 1) := by decide +kernel
theorem dX7_takeWhole_15 : decode cX7_takeWhole 15 = .ok (.istore_n 3, 1) := by decide +kernel
theorem dX7_takeWhole_16 : decode cX7_takeWhole 16 = .ok (.aload_n 0, 1) := by decide +kernel
theorem dX7_takeWhole_17 : decode cX7_takeWhole 17 = .ok (.getfield 25, 3) := by decide +kernel
theorem dX7_takeWhole_20 : decode cX7_takeWhole 20 = .ok (.istore 4, 2) := by decide +kernel
theorem dX7_takeWhole_22 : decode cX7_takeWhole 22 = .ok (.iload 4, 2) := by decide +kernel
theorem dX7_takeWhole_24 : decode cX7_takeWhole 24 = .ok (.aload_n 0, 1) := by decide +kernel
theorem dX7_takeWhole_25 : decode cX7_takeWhole 25 = .ok (.getfield 28, 3) := by decide +kernel
theorem dX7_takeWhole_28 : decode cX7_takeWhole 28 = .ok (.if_icmp .ge 25, 3) := by decide +kernel
theorem dX7_takeWhole_31 : decode cX7_takeWhole 31 = .ok (.bipush 10, 2) := by decide +kernel
theorem dX7_takeWhole_33 : decode cX7_takeWhole 33 = .ok (.iload_n 3, 1) := by decide +kernel
theorem dX7_takeWhole_34 : decode cX7_takeWhole 34 = .ok (.imul, 1) := by decide +kernel
theorem dX7_takeWhole_35 : decode cX7_takeWhole 35 = .ok (.aload_n 0, 1) := by decide +kernel
theorem dX7_takeWhole_36 : decode cX7_takeWhole 36 = .ok (.getfield 9, 3) := by decide +kernel
theorem dX7_takeWhole_39 : decode cX7_takeWhole 39 = .ok (.iload 4, 2) := by decide +kernel
theorem dX7_takeWhole_4 : decode cX7_takeWhole 4 = .ok (.iconst 2, 1) := by decide +kernel
theorem dX7_takeWhole_41 : decode cX7_takeWhole 41 = .ok (.baload, 1) := by decide +kernel
theorem dX7_takeWhole_42 : decode cX7_takeWhole 42 = .ok (.iadd, 1) := by decide +kernel
theorem dX7_takeWhole_43 : decode cX7_takeWhole 43 = .ok (.bipush 48, 2) := by decide +kernel
theorem dX7_takeWhole_45 : decode cX7_takeWhole 45 = .ok (.isub, 1) := by decide +kernel
theorem dX7_takeWhole_46 : decode cX7_takeWhole 46 = .ok (.istore_n 3, 1) := by decide +kernel
theorem dX7_takeWhole_47 : decode cX7_takeWhole 47 = .ok (.iinc 4 1, 3) := by decide +kernel
theorem dX7_takeWhole_5 : decode cX7_takeWhole 5 = .ok (.if_icmp .eq 9, 3) := by decide +kernel
theorem dX7_takeWhole_50 : decode cX7_takeWhole 50 = .ok (.goto (-28), 3) := by decide +kernel
theorem dX7_takeWhole_53 : decode cX7_takeWhole 53 = .ok (.iload_n 3, 1) := by decide +kernel
theorem dX7_takeWhole_54 : decode cX7_takeWhole 54 = .ok (.iload_n 1, 1) := by decide +kernel
theorem dX7_takeWhole_55 : decode cX7_takeWhole 55 = .ok (.iload_n 2, 1) := by decide +kernel
theorem dX7_takeWhole_56 : decode cX7_takeWhole 56 = .ok (.invokestatic 204, 3) := by decide +kernel
theorem dX7_takeWhole_59 : decode cX7_takeWhole 59 = .ok (.ifCond .ne 9, 3) := by decide +kernel
theorem dX7_takeWhole_62 : decode cX7_takeWhole 62 = .ok (.aload_n 0, 1) := by decide +kernel
theorem dX7_takeWhole_63 : decode cX7_takeWhole 63 = .ok (.iconst 4, 1) := by decide +kernel
theorem dX7_takeWhole_64 : decode cX7_takeWhole 64 = .ok (.invokevirtual 72, 3) := by decide +kernel
theorem dX7_takeWhole_67 : decode cX7_takeWhole 67 = .ok (.ireturn, 1) := by decide +kernel
theorem dX7_takeWhole_68 : decode cX7_takeWhole 68 = .ok (.aload_n 0, 1) := by decide +kernel
theorem dX7_takeWhole_69 : decode cX7_takeWhole 69 = .ok (.iload_n 3, 1) := by decide +kernel
theorem dX7_takeWhole_70 : decode cX7_takeWhole 70 = .ok (.putfield 31, 3) := by decide +kernel
theorem dX7_takeWhole_73 : decode cX7_takeWhole 73 = .ok (.aload_n 0, 1) := by decide +kernel
theorem dX7_takeWhole_74 : decode cX7_takeWhole 74 = .ok (.invokevirtual 62, 3) := by decide +kernel
theorem dX7_takeWhole_77 : decode cX7_takeWhole 77 = .ok (.iconst 1, 1) := by decide +kernel
theorem dX7_takeWhole_78 : decode cX7_takeWhole 78 = .ok (.ireturn, 1) := by decide +kernel
theorem dX7_takeWhole_8 : decode cX7_takeWhole 8 = .ok (.aload_n 0, 1) := by decide +kernel
theorem dX7_takeWhole_9 : decode cX7_takeWhole 9 = .ok (.iconst 1, 1) := by decide +kernel
def vfX7_takeWhole : List Cond := List.cons (.code yX7_takeWhole cX7_takeWhole 5 (some .boolean)) (apW [.fieldLink RX7 22 "HookPier$Reader" "token" "I", .fieldLink RX7 25 "HookPier$Reader" "start" "I", .fieldLink RX7 28 "HookPier$Reader" "behind" "I", .initialized RX10, .static yX10_within, .fieldLink RX7 31 "HookPier$Reader" "value" "I", .methodLink RX7 62 yX7_advance, .instanceMethod yX7_advance, .selects RX7 yX7_advance yX7_advance, .initialized RX7, .methodLink RX7 72 yX7_fail, .instanceMethod yX7_fail, .selects RX7 yX7_fail yX7_fail, .fieldLink RX7 9 "HookPier$Reader" "text" "[B"] (apW wsX70 (apW vfX10_within (apW vfX7_advance (vfX7_fail)))))
theorem ifX7_takeWhole_X7 : ∀ w ∈ wsX70, w ∈ vfX7_takeWhole := fun _ h => (List.mem_cons_of_mem _ (List.mem_append_right _ (List.mem_append_left _ h)))
theorem qfX7_takeWhole : Good vfX7_takeWhole := gd_cons (by decide +kernel) (gd_app (gd_dec (by decide +kernel) : Good [.fieldLink RX7 22 "HookPier$Reader" "token" "I", .fieldLink RX7 25 "HookPier$Reader" "start" "I", .fieldLink RX7 28 "HookPier$Reader" "behind" "I", .initialized RX10, .static yX10_within, .fieldLink RX7 31 "HookPier$Reader" "value" "I", .methodLink RX7 62 yX7_advance, .instanceMethod yX7_advance, .selects RX7 yX7_advance yX7_advance, .initialized RX7, .methodLink RX7 72 yX7_fail, .instanceMethod yX7_fail, .selects RX7 yX7_fail yX7_fail, .fieldLink RX7 9 "HookPier$Reader" "text" "[B"]) (gd_app qsX7 (gd_app qfX10_within (gd_app qfX7_advance qfX7_fail))))
theorem gfX7_takeWhole_0 : GoodIn vfX7_takeWhole vfX10_within := (goodIn_m (fun _ h => (List.mem_cons_of_mem _ (List.mem_append_right _ (List.mem_append_right _ (List.mem_append_left _ h))))) qfX10_within)
theorem gfX7_takeWhole_1 : GoodIn vfX7_takeWhole (wsV RX7 62 RX7 yX7_advance vfX7_advance) := goodIn_app (goodIn_r [.methodLink RX7 62 yX7_advance, .instanceMethod yX7_advance, .selects RX7 yX7_advance yX7_advance, .initialized RX7] [7, 8, 9, 10] rfl (by decide +kernel)) (goodIn_m (fun _ h => (List.mem_cons_of_mem _ (List.mem_append_right _ (List.mem_append_right _ (List.mem_append_right _ (List.mem_append_left _ h)))))) qfX7_advance)
theorem gfX7_takeWhole_2 : GoodIn vfX7_takeWhole (wsV RX7 72 RX7 yX7_fail vfX7_fail) := goodIn_app (goodIn_r [.methodLink RX7 72 yX7_fail, .instanceMethod yX7_fail, .selects RX7 yX7_fail yX7_fail, .initialized RX7] [11, 12, 13, 10] rfl (by decide +kernel)) (goodIn_m (fun _ h => (List.mem_cons_of_mem _ (List.mem_append_right _ (List.mem_append_right _ (List.mem_append_right _ (List.mem_append_right _ h)))))) qfX7_fail)
set_option maxHeartbeats 2000000 in
set_option maxRecDepth 100000 in
theorem kfX7_takeWhole (l : Launch) (dC : Nat → ClassId) (dI : Nat → Nat → Nat) (a0 : Nat) (k1 : Int32) (k2 : Int32) (ur : Nat → Nat) (kr : Nat → ClassId) (r_r : TX7_r) (sz : Nat) (out : (Int32 × TX7_r)) (h : f_X7_takeWhole k1 k2 r_r = some out) : Met l yX7_takeWhole vfX7_takeWhole ({ frames := 2, cells := 0, slots := 0, locals := 41 }) (PC (dC, dI) [.ref a0, .int k1, .int k2] sz (bX7 a0 ur kr r_r []) (tX7 kr ([]))) (va_Qi (S := Unit) (fun (r : Int32) _ => r = out.1 ∧ (0 ≤ r.toInt ∧ r.toInt ≤ 1)) (fun _ t => BC (dC, dI) (va_A (bX7 a0 ur kr r_r []) sz) (bX7 a0 ur kr out.2 []) [] t) (va_A (bX7 a0 ur kr r_r []) sz)) 0 0 (va_A (bX7 a0 ur kr r_r []) sz) := by
  refine Met.ofW (cc := cX7_takeWhole) (maxL := 5) (ret := (some .boolean)) (by decide) rfl ?_
  intro p e s m args below meth c s₁ B0 hml hv
  obtain ⟨rfl, hsz, hP, hK, hD0, hN⟩ := hv
  have hx := B0.exec
  have hb := B0.bytes
  have hr := B0.returns
  have hts := atoms_spec (ws := vfX7_takeWhole) B0.pre
  have hown : s.vm.findClass RX7 = some m.cls := findClass_of_methodNamed B0.named
  have hlocks := B0.notSynchronized
  subst hsz
  have hD := hD0.self (sz := s.heap.size)
  generalize hAe : va_A (bX7 a0 ur kr r_r []) s.heap.size = A at hD ⊢
  have hA : ∀ q : Nat, s.heap.size ≤ q → A q := fun q h => by rw [← hAe]; exact Or.inr h
  have hS : va_S A s.heap s.heap [] := va_S.rf
  have hP : va_P (dC, dI) vwCl (bX7 a0 ur kr r_r []) s.heap := hP
  have hl := lv_entry ([.ref a0, .int k1, .int k2]) (n := 5) (Nat.le_of_ble_eq_true rfl)
  rw [lg_entry_eq]
  generalize (lg_sl ([.ref a0, .int k1, .int k2]) ++ List.replicate (5 - (lg_sl ([.ref a0, .int k1, .int k2])).length) Slot.unset).toArray = ls at hl ⊢
  have hl : lv_has ls 5 [(0, .ref a0), (1, .int k1), (2, .int k2)] := hl
  refine W_q (fun QQ hQQ => ?_)
  rw [f_X7_takeWhole] at h
  refine lv_aload_n hx hb dX7_takeWhole_0 rfl (lv_at hl 0 rfl) ?_
  refine va_get (D := (dC, dI)) (ci := 5) (v := .int r_r.2.2.2.1) (C := RX7) (T := TX7) (N := 12) hx hb hts ifX7_takeWhole_X7 hown hK hP 0 rfl rfl 3 (by decide) (hts (.fieldLink RX7 22 "HookPier$Reader" "token" "I") (List.mem_of_getElem? (i := 1) rfl)) (fun _ h9 => h9) rfl dX7_takeWhole_1 ?_
  refine lv_iconst (v := 2) hx hb dX7_takeWhole_4 (by decide) ?_
  refine lv_icmp_eq (tgt := 14) hx hb dX7_takeWhole_5 (by decide) (fun c5 => ?_) (fun c5 => ?_)
  · have h := (if_pos c5).symm.trans h
    refine lv_iconst (v := 0) hx hb dX7_takeWhole_14 (by decide) ?_
    refine lv_istore_n (lv' := [(3, .int 0), (0, .ref a0), (1, .int k1), (2, .int k2)]) hx hb dX7_takeWhole_15 rfl hl (by decide) rfl (fun ls hl => ?_)
    refine lv_aload_n hx hb dX7_takeWhole_16 rfl (lv_at hl 1 rfl) ?_
    refine va_get (D := (dC, dI)) (ci := 5) (v := .int r_r.2.2.2.2.1) (C := RX7) (T := TX7) (N := 12) hx hb hts ifX7_takeWhole_X7 hown hK hP 0 rfl rfl 4 (by decide) (hts (.fieldLink RX7 25 "HookPier$Reader" "start" "I") (List.mem_of_getElem? (i := 2) rfl)) (fun _ h9 => h9) rfl dX7_takeWhole_17 ?_
    refine lv_istore (lv' := [(4, .int r_r.2.2.2.2.1), (3, .int 0), (0, .ref a0), (1, .int k1), (2, .int k2)]) hx hb dX7_takeWhole_20 hl (by decide) rfl (fun ls hl => ?_)
    have L22 : ∀ (n22 : Nat) (v22_l4 : Int32) (v22_l3 : Int32) (H : Heap) (locs : List Loc) (ls : Array Slot), f_X7_takeWhole_L22 k1 k2 r_r n22 v22_l4 v22_l3 = some out → va_P (dC, dI) vwCl (bX7 a0 ur kr r_r []) H → va_D A (bX7 a0 ur kr r_r []) → va_S A s.heap H locs → lv_has ls 5 [(4, .int v22_l4), (3, .int v22_l3), (0, .ref a0), (1, .int k1), (2, .int k2)] → W p l e (headSpec vfX7_takeWhole { frames := 2, cells := 0, slots := 0, locals := 41 }).room s m ([.ref a0, .int k1, .int k2]).toArray below meth c H locs 0 0 QQ (F0 m 22 ls []) := by
      intro n22
      induction n22 with
      | zero =>
        intro v22_l4 v22_l3 H locs ls h  _ _ _ _
        rw [f_X7_takeWhole_L22] at h
        cases h
      | succ n22 ih22 =>
        intro v22_l4 v22_l3 H locs ls h  hP hD hS hl
        rw [f_X7_takeWhole_L22] at h
        refine lv_iload hx hb dX7_takeWhole_22 (lv_at hl 0 rfl) ?_
        refine lv_aload_n hx hb dX7_takeWhole_24 rfl (lv_at hl 2 rfl) ?_
        refine va_get (D := (dC, dI)) (ci := 5) (v := .int r_r.2.2.2.2.2.1) (C := RX7) (T := TX7) (N := 12) hx hb hts ifX7_takeWhole_X7 hown hK hP 0 rfl rfl 5 (by decide) (hts (.fieldLink RX7 28 "HookPier$Reader" "behind" "I") (List.mem_of_getElem? (i := 3) rfl)) (fun _ h9 => h9) rfl dX7_takeWhole_25 ?_
        refine lv_icmp_ge (tgt := 53) hx hb dX7_takeWhole_28 (by decide) (fun c28 => ?_) (fun c28 => ?_)
        · have h := (if_pos c28).symm.trans h
          refine lv_iload_n hx hb dX7_takeWhole_53 rfl (lv_at hl 1 rfl) ?_
          refine lv_iload_n hx hb dX7_takeWhole_54 rfl (lv_at hl 3 rfl) ?_
          refine lv_iload_n hx hb dX7_takeWhole_55 rfl (lv_at hl 4 rfl) ?_
          obtain ⟨o56, eo56⟩ : ∃ o, o = f_X10_within v22_l3 k1 k2 := ⟨_, rfl⟩
          have h := nm_of h o56 eo56
          refine cl_i (wc := []) (wr := (bX7 a0 ur kr r_r [])) (va_runSN (As := [.int v22_l3, .int k1, .int k2]) (rest := []) ⟨hx, hb, hml, hown, hts⟩ (kfX10_within l dC dI v22_l3 k1 k2 H.size o56 eo56.symm) ⟨va_cnB 3 hts gfX7_takeWhole_0 rfl rfl rfl (hN.1 (.methodLinkNest RX7 204 yX10_within "HookPier") (List.mem_of_getElem? (i := 8) rfl)) (hts (.initialized RX10) (List.mem_of_getElem? (i := 4) rfl)) (by decide +kernel) ⟨(Nat.le_of_ble_eq_true rfl), (Nat.le_of_ble_eq_true rfl)⟩, (hts (.static yX10_within) (List.mem_of_getElem? (i := 5) rfl)), trivial⟩ (PS (hP.sub (ws' := []) [] rfl) (hK.sub (tys' := ([])) [] rfl) (hD.sub (ws' := []) [] (by decide) rfl) hN) rfl rfl hl.1 rfl (lv_room (Nat.le_of_ble_eq_true rfl)) dX7_takeWhole_56 ⟨(Nat.le_of_ble_eq_true rfl), (Nat.le_of_ble_eq_true rfl)⟩) hP hD hK hS hA [] [0, 1, 2, 3] rfl rfl (by decide) (by decide) (fun r56 _ H locs hw hP hD _ hS => ?_)
          obtain ⟨hw, br56⟩ := hw
          obtain rfl := hw.symm
          have hP : va_P (dC, dI) vwCl (bX7 a0 ur kr r_r []) H := hP
          have hD : va_D A (bX7 a0 ur kr r_r []) := hD
          refine lv_if_ne (tgt := 68) hx hb dX7_takeWhole_59 (by decide) (fun c59 => ?_) (fun c59 => ?_)
          · have h := (if_neg c59).symm.trans h
            refine lv_aload_n hx hb dX7_takeWhole_68 rfl (lv_at hl 2 rfl) ?_
            refine lv_iload_n hx hb dX7_takeWhole_69 rfl (lv_at hl 1 rfl) ?_
            refine va_put (D := (dC, dI)) (ci := 5) (v := .int v22_l3) (ty := .int) (C := RX7) (T := TX7) (N := 12) hx hb hts ifX7_takeWhole_X7 tyX7 tyX7_ok nmX7 hown hK hP hD hS 0 rfl rfl 6 (by decide) (hts (.fieldLink RX7 31 "HookPier$Reader" "value" "I") (List.mem_of_getElem? (i := 6) rfl)) (fun _ h9 => h9) rfl (by decide +kernel) rfl rfl (Nat.le_of_ble_eq_true rfl) dX7_takeWhole_70 (fun H locs hP hD hS => ?_)
            have hP : va_P (dC, dI) vwCl (bX7 a0 ur kr (r_r.1, r_r.2.1, r_r.2.2.1, r_r.2.2.2.1, r_r.2.2.2.2.1, r_r.2.2.2.2.2.1, v22_l3, r_r.2.2.2.2.2.2.2) []) H := hP
            have hD : va_D A (bX7 a0 ur kr (r_r.1, r_r.2.1, r_r.2.2.1, r_r.2.2.2.1, r_r.2.2.2.2.1, r_r.2.2.2.2.2.1, v22_l3, r_r.2.2.2.2.2.2.2) []) := hD
            refine lv_aload_n hx hb dX7_takeWhole_73 rfl (lv_at hl 2 rfl) ?_
            obtain ⟨o74, eo74, h⟩ := bd_of h
            refine cl_v (wc := (bX7 a0 ur kr (r_r.1, r_r.2.1, r_r.2.2.1, r_r.2.2.2.1, r_r.2.2.2.2.1, r_r.2.2.2.2.2.1, v22_l3, r_r.2.2.2.2.2.2.2) [])) (wr := []) (va_runV (As := []) (rest := []) ⟨hx, hb, hml, hown, hts⟩ (kfX7_advance l dC dI a0 ur kr (r_r.1, r_r.2.1, r_r.2.2.1, r_r.2.2.2.1, r_r.2.2.2.2.1, r_r.2.2.2.2.2.1, v22_l3, r_r.2.2.2.2.2.2.2) H.size o74 eo74) (cwV 0 hts gfX7_takeWhole_1 rfl rfl rfl (by decide +kernel) ⟨(Nat.le_of_ble_eq_true rfl), (Nat.le_of_ble_eq_true rfl)⟩) (PV (hP.sub (ws' := (bX7 a0 ur kr (r_r.1, r_r.2.1, r_r.2.2.1, r_r.2.2.2.1, r_r.2.2.2.2.1, r_r.2.2.2.2.2.1, v22_l3, r_r.2.2.2.2.2.2.2) [])) [0, 1, 2, 3] rfl) (hK.sub (tys' := (tX7 kr ([]))) [0, 1, 2] rfl) (hD.sub (ws' := (bX7 a0 ur kr (r_r.1, r_r.2.1, r_r.2.2.1, r_r.2.2.2.1, r_r.2.2.2.2.1, r_r.2.2.2.2.2.1, v22_l3, r_r.2.2.2.2.2.2.2) [])) [0, 1, 2, 3] (by decide) rfl) hN 0 rfl rfl) rfl rfl hl.1 rfl (lv_room (Nat.le_of_ble_eq_true rfl)) dX7_takeWhole_74 ⟨(Nat.le_of_ble_eq_true rfl), (Nat.le_of_ble_eq_true rfl)⟩) hP hD hK hS hA [0, 1, 2, 3] [] rfl rfl (by decide) (by decide) (fun _ H locs hw hP hD _ hS => ?_)
            have hP : va_P (dC, dI) vwCl (bX7 a0 ur kr o74 []) H := hP
            have hD : va_D A (bX7 a0 ur kr o74 []) := hD
            refine lv_iconst (v := 1) hx hb dX7_takeWhole_77 (by decide) ?_
            obtain rfl := Option.some.inj h
            have hP9 := hP.sub (ws' := (bX7 a0 ur kr o74 [])) [0, 1, 2, 3] rfl
            have hD9 := hD.sub (ws' := (bX7 a0 ur kr o74 [])) [0, 1, 2, 3] (by decide) rfl
            have hK9 := hK.sub (tys' := []) [] rfl
            rw [hQQ]
            exact W.zret (v := (1 : Int32)) hx hb hr rfl (fun t ht hW => ⟨⟨(1 : Int32), (), rfl, ⟨rfl, (by decide)⟩, by rw [ht]; exact hP9, va_K.moved hW.alike hK9, hD9⟩, hS.F ht⟩) hS.2.2 dX7_takeWhole_78
          · have h := (if_pos c59).symm.trans h
            refine lv_aload_n hx hb dX7_takeWhole_62 rfl (lv_at hl 2 rfl) ?_
            refine lv_iconst (v := 4) hx hb dX7_takeWhole_63 (by decide) ?_
            obtain ⟨o64, eo64⟩ : ∃ o, o = f_X7_fail (4 : Int32) r_r := ⟨_, rfl⟩
            have h := nm_of h o64 eo64
            refine cl_i (wc := (bX7 a0 ur kr r_r [])) (wr := []) (va_runV (As := [.int 4]) (rest := []) ⟨hx, hb, hml, hown, hts⟩ (kfX7_fail l dC dI a0 (4 : Int32) ur kr r_r H.size o64 eo64.symm) (cwV 1 hts gfX7_takeWhole_2 rfl rfl rfl (by decide +kernel) ⟨(Nat.le_of_ble_eq_true rfl), (Nat.le_of_ble_eq_true rfl)⟩) (PV (hP.sub (ws' := (bX7 a0 ur kr r_r [])) [0, 1, 2, 3] rfl) (hK.sub (tys' := (tX7 kr ([]))) [0, 1, 2] rfl) (hD.sub (ws' := (bX7 a0 ur kr r_r [])) [0, 1, 2, 3] (by decide) rfl) hN 0 rfl rfl) rfl rfl hl.1 rfl (lv_room (Nat.le_of_ble_eq_true rfl)) dX7_takeWhole_64 ⟨(Nat.le_of_ble_eq_true rfl), (Nat.le_of_ble_eq_true rfl)⟩) hP hD hK hS hA [0, 1, 2, 3] [] rfl rfl (by decide) (by decide) (fun r64 _ H locs hw hP hD _ hS => ?_)
            obtain ⟨hw, br64⟩ := hw
            obtain rfl := hw
            have hP : va_P (dC, dI) vwCl (bX7 a0 ur kr o64 []) H := hP
            have hD : va_D A (bX7 a0 ur kr o64 []) := hD
            obtain rfl := Option.some.inj h
            have hP9 := hP.sub (ws' := (bX7 a0 ur kr o64 [])) [0, 1, 2, 3] rfl
            have hD9 := hD.sub (ws' := (bX7 a0 ur kr o64 [])) [0, 1, 2, 3] (by decide) rfl
            have hK9 := hK.sub (tys' := []) [] rfl
            rw [hQQ]
            exact W.zret (v := (0 : Int32)) hx hb hr rfl (fun t ht hW => ⟨⟨(0 : Int32), (), rfl, ⟨rfl, (by decide)⟩, by rw [ht]; exact hP9, va_K.moved hW.alike hK9, hD9⟩, hS.F ht⟩) hS.2.2 dX7_takeWhole_67
        · have h := (if_neg c28).symm.trans h
          refine lv_bipush (v := 10) hx hb dX7_takeWhole_31 (by decide) ?_
          refine lv_iload_n hx hb dX7_takeWhole_33 rfl (lv_at hl 1 rfl) ?_
          refine lv_imul hx hb dX7_takeWhole_34 ?_
          refine lv_aload_n hx hb dX7_takeWhole_35 rfl (lv_at hl 2 rfl) ?_
          refine va_get (D := (dC, dI)) (ci := 5) (v := .ref (ur 0)) (C := RX7) (T := TX7) (N := 12) hx hb hts ifX7_takeWhole_X7 hown hK hP 0 rfl rfl 0 (by decide) (hts (.fieldLink RX7 9 "HookPier$Reader" "text" "[B") (List.mem_of_getElem? (i := 14) rfl)) (fun _ h9 => h9) rfl dX7_takeWhole_36 ?_
          refine lv_iload hx hb dX7_takeWhole_39 (lv_at hl 0 rfl) ?_
          obtain ⟨hg41, h⟩ := gA_of h
          refine va_bald hx hb hK hP 1 0 rfl rfl hg41 dX7_takeWhole_41 ?_
          refine lv_iadd hx hb dX7_takeWhole_42 ?_
          refine lv_bipush (v := 48) hx hb dX7_takeWhole_43 (by decide) ?_
          refine lv_isub hx hb dX7_takeWhole_45 ?_
          refine lv_topi (fun z45 ez45 => ?_)
          have h := nm_of h z45 ez45
          refine lv_istore_n (lv' := [(3, .int z45), (4, .int v22_l4), (0, .ref a0), (1, .int k1), (2, .int k2)]) hx hb dX7_takeWhole_46 rfl hl (by decide) rfl (fun ls hl => ?_)
          refine lv_iinc (v := (v22_l4 + (1 : Int32))) (lv' := [(4, .int (v22_l4 + (1 : Int32))), (3, .int z45), (0, .ref a0), (1, .int k1), (2, .int k2)]) hx hb dX7_takeWhole_47 hl (k := 1) rfl rfl (by decide) rfl (fun ls hl => ?_)
          refine lv_goto (tgt := 22) hx hb dX7_takeWhole_50 (by decide) ?_
          exact ih22 (v22_l4 + (1 : Int32)) z45 H _ ls h  hP hD hS (lv_sub hl [0, 1, 2, 3, 4] rfl)
    exact L22 FU r_r.2.2.2.2.1 (0 : Int32) s.heap _ ls h  hP hD hS (lv_sub hl [0, 1, 2, 3, 4] rfl)
  · have h := (if_neg c5).symm.trans h
    refine lv_aload_n hx hb dX7_takeWhole_8 rfl (lv_at hl 0 rfl) ?_
    refine lv_iconst (v := 1) hx hb dX7_takeWhole_9 (by decide) ?_
    obtain ⟨o10, eo10⟩ : ∃ o, o = f_X7_fail (1 : Int32) r_r := ⟨_, rfl⟩
    have h := nm_of h o10 eo10
    refine cl_i (wc := (bX7 a0 ur kr r_r [])) (wr := []) (va_runV (As := [.int 1]) (rest := []) ⟨hx, hb, hml, hown, hts⟩ (kfX7_fail l dC dI a0 (1 : Int32) ur kr r_r s.heap.size o10 eo10.symm) (cwV 1 hts gfX7_takeWhole_2 rfl rfl rfl (by decide +kernel) ⟨(Nat.le_of_ble_eq_true rfl), (Nat.le_of_ble_eq_true rfl)⟩) (PV (hP.sub (ws' := (bX7 a0 ur kr r_r [])) [0, 1, 2, 3] rfl) (hK.sub (tys' := (tX7 kr ([]))) [0, 1, 2] rfl) (hD.sub (ws' := (bX7 a0 ur kr r_r [])) [0, 1, 2, 3] (by decide) rfl) hN 0 rfl rfl) rfl rfl hl.1 rfl (lv_room (Nat.le_of_ble_eq_true rfl)) dX7_takeWhole_10 ⟨(Nat.le_of_ble_eq_true rfl), (Nat.le_of_ble_eq_true rfl)⟩) hP hD hK hS hA [0, 1, 2, 3] [] rfl rfl (by decide) (by decide) (fun r10 _ H locs hw hP hD _ hS => ?_)
    obtain ⟨hw, br10⟩ := hw
    obtain rfl := hw
    have hP : va_P (dC, dI) vwCl (bX7 a0 ur kr o10 []) H := hP
    have hD : va_D A (bX7 a0 ur kr o10 []) := hD
    obtain rfl := Option.some.inj h
    have hP9 := hP.sub (ws' := (bX7 a0 ur kr o10 [])) [0, 1, 2, 3] rfl
    have hD9 := hD.sub (ws' := (bX7 a0 ur kr o10 [])) [0, 1, 2, 3] (by decide) rfl
    have hK9 := hK.sub (tys' := []) [] rfl
    rw [hQQ]
    exact W.zret (v := (0 : Int32)) hx hb hr rfl (fun t ht hW => ⟨⟨(0 : Int32), (), rfl, ⟨rfl, (by decide)⟩, by rw [ht]; exact hP9, va_K.moved hW.alike hK9, hD9⟩, hS.F ht⟩) hS.2.2 dX7_takeWhole_13
theorem dX7_wordCode_0 : decode cX7_wordCode 0 = .ok (.lconst 0, 1) := by decide +kernel
theorem dX7_wordCode_1 : decode cX7_wordCode 1 = .ok (.lstore_n 1, 1) := by decide +kernel
theorem dX7_wordCode_12 : decode cX7_wordCode 12 = .ok (.if_icmp .ge 29, 3) := by decide +kernel
theorem dX7_wordCode_15 : decode cX7_wordCode 15 = .ok (.ldc2_w 241, 3) := by decide +kernel
theorem dX7_wordCode_18 : decode cX7_wordCode 18 = .ok (.lload_n 1, 1) := by decide +kernel
theorem dX7_wordCode_19 : decode cX7_wordCode 19 = .ok (.lmul, 1) := by decide +kernel
theorem dX7_wordCode_2 : decode cX7_wordCode 2 = .ok (.aload_n 0, 1) := by decide +kernel
theorem dX7_wordCode_20 : decode cX7_wordCode 20 = .ok (.aload_n 0, 1) := by decide +kernel
theorem dX7_wordCode_21 : decode cX7_wordCode 21 = .ok (.getfield 9, 3) := by decide +kernel
theorem dX7_wordCode_24 : decode cX7_wordCode 24 = .ok (.iload_n 3, 1) := by decide +kernel
theorem dX7_wordCode_25 : decode cX7_wordCode 25 = .ok (.baload, 1) := by decide +kernel
theorem dX7_wordCode_26 : decode cX7_wordCode 26 = .ok (.i2l, 1) := by decide +kernel
theorem dX7_wordCode_27 : decode cX7_wordCode 27 = .ok (.ladd, 1) := by decide +kernel
theorem dX7_wordCode_28 : decode cX7_wordCode 28 = .ok (.ldc2_w 243, 3) := by decide +kernel
theorem dX7_wordCode_3 : decode cX7_wordCode 3 = .ok (.getfield 25, 3) := by decide +kernel
theorem dX7_wordCode_31 : decode cX7_wordCode 31 = .ok (.lsub, 1) := by decide +kernel
theorem dX7_wordCode_32 : decode cX7_wordCode 32 = .ok (.lconst 1, 1) := by decide +kernel
theorem dX7_wordCode_33 : decode cX7_wordCode 33 = .ok (.ladd, 1) := by decide +kernel
theorem dX7_wordCode_34 : decode cX7_wordCode 34 = .ok (.lstore_n 1, 1) := by decide +kernel
theorem dX7_wordCode_35 : decode cX7_wordCode 35 = .ok (.iinc 3 1, 3) := by decide +kernel
theorem dX7_wordCode_38 : decode cX7_wordCode 38 = .ok (.goto (-31), 3) := by decide +kernel
theorem dX7_wordCode_41 : decode cX7_wordCode 41 = .ok (.lload_n 1, 1) := by decide +kernel
theorem dX7_wordCode_42 : decode cX7_wordCode 42 = .ok (.lreturn, 1) := by decide +kernel
theorem dX7_wordCode_6 : decode cX7_wordCode 6 = .ok (.istore_n 3, 1) := by decide +kernel
theorem dX7_wordCode_7 : decode cX7_wordCode 7 = .ok (.iload_n 3, 1) := by decide +kernel
theorem dX7_wordCode_8 : decode cX7_wordCode 8 = .ok (.aload_n 0, 1) := by decide +kernel
theorem dX7_wordCode_9 : decode cX7_wordCode 9 = .ok (.getfield 28, 3) := by decide +kernel
def vfX7_wordCode : List Cond := List.cons (.code yX7_wordCode cX7_wordCode 4 (some .long)) (apW [.fieldLink RX7 25 "HookPier$Reader" "start" "I", .fieldLink RX7 28 "HookPier$Reader" "behind" "I", .constantLong RX7 241 (32), .fieldLink RX7 9 "HookPier$Reader" "text" "[B", .constantLong RX7 243 (97)] (wsX70))
theorem ifX7_wordCode_X7 : ∀ w ∈ wsX70, w ∈ vfX7_wordCode := fun _ h => (List.mem_cons_of_mem _ (List.mem_append_right _ h))
theorem qfX7_wordCode : Good vfX7_wordCode := gd_cons (by decide +kernel) (gd_app (gd_dec (by decide +kernel) : Good [.fieldLink RX7 25 "HookPier$Reader" "start" "I", .fieldLink RX7 28 "HookPier$Reader" "behind" "I", .constantLong RX7 241 (32), .fieldLink RX7 9 "HookPier$Reader" "text" "[B", .constantLong RX7 243 (97)]) qsX7)
set_option maxHeartbeats 2000000 in
set_option maxRecDepth 100000 in
theorem kfX7_wordCode (l : Launch) (dC : Nat → ClassId) (dI : Nat → Nat → Nat) (a0 : Nat) (ur : Nat → Nat) (kr : Nat → ClassId) (r_r : TX7_r) (sz : Nat) (out : Int64) (h : f_X7_wordCode r_r = some out) : Met l yX7_wordCode vfX7_wordCode ({ frames := 0, cells := 0, slots := 0, locals := 0 }) (PC (dC, dI) [.ref a0] sz (bX7 a0 ur kr r_r []) (tX7 kr ([]))) (va_Ql (S := Unit) (fun (r : Int64) _ => r = out) (fun _ t => BC (dC, dI) (va_A (bX7 a0 ur kr r_r []) sz) (bX7 a0 ur kr r_r []) [] t) (va_A (bX7 a0 ur kr r_r []) sz)) 0 0 (va_A (bX7 a0 ur kr r_r []) sz) := by
  refine Met.ofW (cc := cX7_wordCode) (maxL := 4) (ret := (some .long)) (by decide) rfl ?_
  intro p e s m args below meth c s₁ B0 hml hv
  obtain ⟨rfl, hsz, hP, hK, hD0, hN⟩ := hv
  have hx := B0.exec
  have hb := B0.bytes
  have hr := B0.returns
  have hts := atoms_spec (ws := vfX7_wordCode) B0.pre
  have hown : s.vm.findClass RX7 = some m.cls := findClass_of_methodNamed B0.named
  have hlocks := B0.notSynchronized
  subst hsz
  have hD := hD0.self (sz := s.heap.size)
  generalize hAe : va_A (bX7 a0 ur kr r_r []) s.heap.size = A at hD ⊢
  have hA : ∀ q : Nat, s.heap.size ≤ q → A q := fun q h => by rw [← hAe]; exact Or.inr h
  have hS : va_S A s.heap s.heap [] := va_S.rf
  have hP : va_P (dC, dI) vwCl (bX7 a0 ur kr r_r []) s.heap := hP
  have hl := lv_entry ([.ref a0]) (n := 4) (Nat.le_of_ble_eq_true rfl)
  rw [lg_entry_eq]
  generalize (lg_sl ([.ref a0]) ++ List.replicate (4 - (lg_sl ([.ref a0])).length) Slot.unset).toArray = ls at hl ⊢
  have hl : lv_has ls 4 [(0, .ref a0)] := hl
  refine W_q (fun QQ hQQ => ?_)
  rw [f_X7_wordCode] at h
  refine lv_lconst (v := 0) hx hb dX7_wordCode_0 (by decide) ?_
  refine lv_lstore_n (lv' := [(1, .long 0), (0, .ref a0)]) hx hb dX7_wordCode_1 rfl hl (by decide) rfl (fun ls hl => ?_)
  refine lv_aload_n hx hb dX7_wordCode_2 rfl (lv_at hl 1 rfl) ?_
  refine va_get (D := (dC, dI)) (ci := 5) (v := .int r_r.2.2.2.2.1) (C := RX7) (T := TX7) (N := 12) hx hb hts ifX7_wordCode_X7 hown hK hP 0 rfl rfl 4 (by decide) (hts (.fieldLink RX7 25 "HookPier$Reader" "start" "I") (List.mem_of_getElem? (i := 1) rfl)) (fun _ h9 => h9) rfl dX7_wordCode_3 ?_
  refine lv_istore_n (lv' := [(3, .int r_r.2.2.2.2.1), (1, .long 0), (0, .ref a0)]) hx hb dX7_wordCode_6 rfl hl (by decide) rfl (fun ls hl => ?_)
  have L7 : ∀ (n7 : Nat) (v7_l3 : Int32) (v7_l1 : Int64) (H : Heap) (locs : List Loc) (ls : Array Slot), f_X7_wordCode_L7 r_r n7 v7_l3 v7_l1 = some out → va_P (dC, dI) vwCl (bX7 a0 ur kr r_r []) H → va_D A (bX7 a0 ur kr r_r []) → va_S A s.heap H locs → lv_has ls 4 [(3, .int v7_l3), (1, .long v7_l1), (0, .ref a0)] → W p l e (headSpec vfX7_wordCode { frames := 0, cells := 0, slots := 0, locals := 0 }).room s m ([.ref a0]).toArray below meth c H locs 0 0 QQ (F0 m 7 ls []) := by
    intro n7
    induction n7 with
    | zero =>
      intro v7_l3 v7_l1 H locs ls h  _ _ _ _
      rw [f_X7_wordCode_L7] at h
      cases h
    | succ n7 ih7 =>
      intro v7_l3 v7_l1 H locs ls h  hP hD hS hl
      rw [f_X7_wordCode_L7] at h
      refine lv_iload_n hx hb dX7_wordCode_7 rfl (lv_at hl 0 rfl) ?_
      refine lv_aload_n hx hb dX7_wordCode_8 rfl (lv_at hl 2 rfl) ?_
      refine va_get (D := (dC, dI)) (ci := 5) (v := .int r_r.2.2.2.2.2.1) (C := RX7) (T := TX7) (N := 12) hx hb hts ifX7_wordCode_X7 hown hK hP 0 rfl rfl 5 (by decide) (hts (.fieldLink RX7 28 "HookPier$Reader" "behind" "I") (List.mem_of_getElem? (i := 2) rfl)) (fun _ h9 => h9) rfl dX7_wordCode_9 ?_
      refine lv_icmp_ge (tgt := 41) hx hb dX7_wordCode_12 (by decide) (fun c12 => ?_) (fun c12 => ?_)
      · have h := (if_pos c12).symm.trans h
        refine lv_lload_n hx hb dX7_wordCode_41 rfl (lv_at hl 1 rfl) ?_
        obtain rfl := Option.some.inj h
        have hP9 := hP.sub (ws' := (bX7 a0 ur kr r_r [])) [0, 1, 2, 3] rfl
        have hD9 := hD.sub (ws' := (bX7 a0 ur kr r_r [])) [0, 1, 2, 3] (by decide) rfl
        have hK9 := hK.sub (tys' := []) [] rfl
        rw [hQQ]
        exact W.lret (v := v7_l1) hx hb hr (fun t ht hW => ⟨⟨v7_l1, (), rfl, rfl, by rw [ht]; exact hP9, va_K.moved hW.alike hK9, hD9⟩, hS.F ht⟩) hS.2.2 dX7_wordCode_42
      · have h := (if_neg c12).symm.trans h
        refine lv_ldc2 hx hb hown (hts (.constantLong RX7 241 (32)) (List.mem_of_getElem? (i := 3) rfl)) dX7_wordCode_15 ?_
        refine lv_lload_n hx hb dX7_wordCode_18 rfl (lv_at hl 1 rfl) ?_
        refine lv_lmul hx hb dX7_wordCode_19 ?_
        refine lv_aload_n hx hb dX7_wordCode_20 rfl (lv_at hl 2 rfl) ?_
        refine va_get (D := (dC, dI)) (ci := 5) (v := .ref (ur 0)) (C := RX7) (T := TX7) (N := 12) hx hb hts ifX7_wordCode_X7 hown hK hP 0 rfl rfl 0 (by decide) (hts (.fieldLink RX7 9 "HookPier$Reader" "text" "[B") (List.mem_of_getElem? (i := 4) rfl)) (fun _ h9 => h9) rfl dX7_wordCode_21 ?_
        refine lv_iload_n hx hb dX7_wordCode_24 rfl (lv_at hl 0 rfl) ?_
        obtain ⟨hg25, h⟩ := gA_of h
        refine va_bald hx hb hK hP 1 0 rfl rfl hg25 dX7_wordCode_25 ?_
        refine lv_i2l hx hb dX7_wordCode_26 rfl ?_
        refine lv_ladd hx hb dX7_wordCode_27 ?_
        refine lv_topl (fun z27 ez27 => ?_)
        have h := nm_of h z27 ez27
        refine lv_ldc2 hx hb hown (hts (.constantLong RX7 243 (97)) (List.mem_of_getElem? (i := 5) rfl)) dX7_wordCode_28 ?_
        refine lv_lsub hx hb dX7_wordCode_31 ?_
        refine lv_lconst (v := 1) hx hb dX7_wordCode_32 (by decide) ?_
        refine lv_ladd hx hb dX7_wordCode_33 ?_
        refine lv_lstore_n (lv' := [(1, .long ((z27 - (97 : Int64)) + (1 : Int64))), (3, .int v7_l3), (0, .ref a0)]) hx hb dX7_wordCode_34 rfl hl (by decide) rfl (fun ls hl => ?_)
        refine lv_iinc (v := (v7_l3 + (1 : Int32))) (lv' := [(3, .int (v7_l3 + (1 : Int32))), (1, .long ((z27 - (97 : Int64)) + (1 : Int64))), (0, .ref a0)]) hx hb dX7_wordCode_35 hl (k := 1) rfl rfl (by decide) rfl (fun ls hl => ?_)
        refine lv_goto (tgt := 7) hx hb dX7_wordCode_38 (by decide) ?_
        exact ih7 (v7_l3 + (1 : Int32)) ((z27 - (97 : Int64)) + (1 : Int64)) H _ ls h  hP hD hS (lv_sub hl [0, 1, 2] rfl)
  exact L7 FU r_r.2.2.2.2.1 (0 : Int64) s.heap _ ls h  hP hD hS (lv_sub hl [0, 1, 2] rfl)
theorem dX7_nameOf_0 : decode cX7_nameOf 0 = .ok (.iconst 0, 1) := by decide +kernel
theorem dX7_nameOf_1 : decode cX7_nameOf 1 = .ok (.istore_n 3, 1) := by decide +kernel
theorem dX7_nameOf_10 : decode cX7_nameOf 10 = .ok (.aload_n 0, 1) := by decide +kernel
theorem dX7_nameOf_11 : decode cX7_nameOf 11 = .ok (.getfield 34, 3) := by decide +kernel
theorem dX7_nameOf_14 : decode cX7_nameOf 14 = .ok (.iload_n 3, 1) := by decide +kernel
theorem dX7_nameOf_15 : decode cX7_nameOf 15 = .ok (.laload, 1) := by decide +kernel
theorem dX7_nameOf_16 : decode cX7_nameOf 16 = .ok (.lload_n 1, 1) := by decide +kernel
theorem dX7_nameOf_17 : decode cX7_nameOf 17 = .ok (.lcmp, 1) := by decide +kernel
theorem dX7_nameOf_18 : decode cX7_nameOf 18 = .ok (.ifCond .ne 5, 3) := by decide +kernel
theorem dX7_nameOf_2 : decode cX7_nameOf 2 = .ok (.iload_n 3, 1) := by decide +kernel
theorem dX7_nameOf_21 : decode cX7_nameOf 21 = .ok (.iload_n 3, 1) := by decide +kernel
theorem dX7_nameOf_22 : decode cX7_nameOf 22 = .ok (.ireturn, 1) := by decide +kernel
theorem dX7_nameOf_23 : decode cX7_nameOf 23 = .ok (.iinc 3 1, 3) := by decide +kernel
theorem dX7_nameOf_26 : decode cX7_nameOf 26 = .ok (.goto (-24), 3) := by decide +kernel
theorem dX7_nameOf_29 : decode cX7_nameOf 29 = .ok (.iconst (-1), 1) := by decide +kernel
theorem dX7_nameOf_3 : decode cX7_nameOf 3 = .ok (.aload_n 0, 1) := by decide +kernel
theorem dX7_nameOf_30 : decode cX7_nameOf 30 = .ok (.ireturn, 1) := by decide +kernel
theorem dX7_nameOf_4 : decode cX7_nameOf 4 = .ok (.getfield 42, 3) := by decide +kernel
theorem dX7_nameOf_7 : decode cX7_nameOf 7 = .ok (.if_icmp .ge 22, 3) := by decide +kernel
def vfX7_nameOf : List Cond := List.cons (.code yX7_nameOf cX7_nameOf 4 (some .int)) (apW [.fieldLink RX7 42 "HookPier$Reader" "names" "I", .fieldLink RX7 34 "HookPier$Reader" "name" "[J"] (wsX70))
theorem ifX7_nameOf_X7 : ∀ w ∈ wsX70, w ∈ vfX7_nameOf := fun _ h => (List.mem_cons_of_mem _ (List.mem_append_right _ h))
theorem qfX7_nameOf : Good vfX7_nameOf := gd_cons (by decide +kernel) (gd_app (gd_dec (by decide +kernel) : Good [.fieldLink RX7 42 "HookPier$Reader" "names" "I", .fieldLink RX7 34 "HookPier$Reader" "name" "[J"]) qsX7)
set_option maxHeartbeats 2000000 in
set_option maxRecDepth 100000 in
theorem kfX7_nameOf (l : Launch) (dC : Nat → ClassId) (dI : Nat → Nat → Nat) (a0 : Nat) (k1 : Int64) (ur : Nat → Nat) (kr : Nat → ClassId) (r_r : TX7_r) (sz : Nat) (out : Int32) (h : f_X7_nameOf k1 r_r = some out) : Met l yX7_nameOf vfX7_nameOf ({ frames := 0, cells := 0, slots := 0, locals := 0 }) (PC (dC, dI) [.ref a0, .long k1] sz (bX7 a0 ur kr r_r []) (tX7 kr ([]))) (va_Qi (S := Unit) (fun (r : Int32) _ => r = out) (fun _ t => BC (dC, dI) (va_A (bX7 a0 ur kr r_r []) sz) (bX7 a0 ur kr r_r []) [] t) (va_A (bX7 a0 ur kr r_r []) sz)) 0 0 (va_A (bX7 a0 ur kr r_r []) sz) := by
  refine Met.ofW (cc := cX7_nameOf) (maxL := 4) (ret := (some .int)) (by decide) rfl ?_
  intro p e s m args below meth c s₁ B0 hml hv
  obtain ⟨rfl, hsz, hP, hK, hD0, hN⟩ := hv
  have hx := B0.exec
  have hb := B0.bytes
  have hr := B0.returns
  have hts := atoms_spec (ws := vfX7_nameOf) B0.pre
  have hown : s.vm.findClass RX7 = some m.cls := findClass_of_methodNamed B0.named
  have hlocks := B0.notSynchronized
  subst hsz
  have hD := hD0.self (sz := s.heap.size)
  generalize hAe : va_A (bX7 a0 ur kr r_r []) s.heap.size = A at hD ⊢
  have hA : ∀ q : Nat, s.heap.size ≤ q → A q := fun q h => by rw [← hAe]; exact Or.inr h
  have hS : va_S A s.heap s.heap [] := va_S.rf
  have hP : va_P (dC, dI) vwCl (bX7 a0 ur kr r_r []) s.heap := hP
  have hl := lv_entry ([.ref a0, .long k1]) (n := 4) (Nat.le_of_ble_eq_true rfl)
  rw [lg_entry_eq]
  generalize (lg_sl ([.ref a0, .long k1]) ++ List.replicate (4 - (lg_sl ([.ref a0, .long k1])).length) Slot.unset).toArray = ls at hl ⊢
  have hl : lv_has ls 4 [(0, .ref a0), (1, .long k1)] := hl
  refine W_q (fun QQ hQQ => ?_)
  rw [f_X7_nameOf] at h
  refine lv_iconst (v := 0) hx hb dX7_nameOf_0 (by decide) ?_
  refine lv_istore_n (lv' := [(3, .int 0), (0, .ref a0), (1, .long k1)]) hx hb dX7_nameOf_1 rfl hl (by decide) rfl (fun ls hl => ?_)
  have L2 : ∀ (n2 : Nat) (v2_l3 : Int32) (H : Heap) (locs : List Loc) (ls : Array Slot), f_X7_nameOf_L2 k1 r_r n2 v2_l3 = some out → va_P (dC, dI) vwCl (bX7 a0 ur kr r_r []) H → va_D A (bX7 a0 ur kr r_r []) → va_S A s.heap H locs → lv_has ls 4 [(3, .int v2_l3), (0, .ref a0), (1, .long k1)] → W p l e (headSpec vfX7_nameOf { frames := 0, cells := 0, slots := 0, locals := 0 }).room s m ([.ref a0, .long k1]).toArray below meth c H locs 0 0 QQ (F0 m 2 ls []) := by
    intro n2
    induction n2 with
    | zero =>
      intro v2_l3 H locs ls h  _ _ _ _
      rw [f_X7_nameOf_L2] at h
      cases h
    | succ n2 ih2 =>
      intro v2_l3 H locs ls h  hP hD hS hl
      rw [f_X7_nameOf_L2] at h
      refine lv_iload_n hx hb dX7_nameOf_2 rfl (lv_at hl 0 rfl) ?_
      refine lv_aload_n hx hb dX7_nameOf_3 rfl (lv_at hl 1 rfl) ?_
      refine va_get (D := (dC, dI)) (ci := 5) (v := .int r_r.2.2.2.2.2.2.2.2.2.1) (C := RX7) (T := TX7) (N := 12) hx hb hts ifX7_nameOf_X7 hown hK hP 0 rfl rfl 9 (by decide) (hts (.fieldLink RX7 42 "HookPier$Reader" "names" "I") (List.mem_of_getElem? (i := 1) rfl)) (fun _ h9 => h9) rfl dX7_nameOf_4 ?_
      refine lv_icmp_ge (tgt := 29) hx hb dX7_nameOf_7 (by decide) (fun c7 => ?_) (fun c7 => ?_)
      · have h := (if_pos c7).symm.trans h
        refine lv_iconst (v := (-1)) hx hb dX7_nameOf_29 (by decide) ?_
        obtain rfl := Option.some.inj h
        have hP9 := hP.sub (ws' := (bX7 a0 ur kr r_r [])) [0, 1, 2, 3] rfl
        have hD9 := hD.sub (ws' := (bX7 a0 ur kr r_r [])) [0, 1, 2, 3] (by decide) rfl
        have hK9 := hK.sub (tys' := []) [] rfl
        rw [hQQ]
        exact W.iret (v := (-1 : Int32)) hx hb hr (fun t ht hW => ⟨⟨(-1 : Int32), (), rfl, rfl, by rw [ht]; exact hP9, va_K.moved hW.alike hK9, hD9⟩, hS.F ht⟩) hS.2.2 dX7_nameOf_30
      · have h := (if_neg c7).symm.trans h
        refine lv_aload_n hx hb dX7_nameOf_10 rfl (lv_at hl 1 rfl) ?_
        refine va_get (D := (dC, dI)) (ci := 5) (v := .ref (ur 1)) (C := RX7) (T := TX7) (N := 12) hx hb hts ifX7_nameOf_X7 hown hK hP 0 rfl rfl 7 (by decide) (hts (.fieldLink RX7 34 "HookPier$Reader" "name" "[J") (List.mem_of_getElem? (i := 2) rfl)) (fun _ h9 => h9) rfl dX7_nameOf_11 ?_
        refine lv_iload_n hx hb dX7_nameOf_14 rfl (lv_at hl 0 rfl) ?_
        obtain ⟨hg15, h⟩ := gA_of h
        refine va_lald hx hb hK hP 2 1 rfl rfl hg15 dX7_nameOf_15 ?_
        refine lv_lload_n hx hb dX7_nameOf_16 rfl (lv_at hl 2 rfl) ?_
        refine W.lcmp hx hb dX7_nameOf_17 ?_
        refine lv_if_ne (tgt := 23) hx hb dX7_nameOf_18 (by decide) (fun c18 => ?_) (fun c18 => ?_)
        · have h := (if_neg c18).symm.trans h
          refine lv_iinc (v := (v2_l3 + (1 : Int32))) (lv' := [(3, .int (v2_l3 + (1 : Int32))), (0, .ref a0), (1, .long k1)]) hx hb dX7_nameOf_23 hl (k := 0) rfl rfl (by decide) rfl (fun ls hl => ?_)
          refine lv_goto (tgt := 2) hx hb dX7_nameOf_26 (by decide) ?_
          exact ih2 (v2_l3 + (1 : Int32)) H _ ls h  hP hD hS (lv_sub hl [0, 1, 2] rfl)
        · have h := (if_pos c18).symm.trans h
          refine lv_iload_n hx hb dX7_nameOf_21 rfl (lv_at hl 0 rfl) ?_
          obtain rfl := Option.some.inj h
          have hP9 := hP.sub (ws' := (bX7 a0 ur kr r_r [])) [0, 1, 2, 3] rfl
          have hD9 := hD.sub (ws' := (bX7 a0 ur kr r_r [])) [0, 1, 2, 3] (by decide) rfl
          have hK9 := hK.sub (tys' := []) [] rfl
          rw [hQQ]
          exact W.iret (v := v2_l3) hx hb hr (fun t ht hW => ⟨⟨v2_l3, (), rfl, rfl, by rw [ht]; exact hP9, va_K.moved hW.alike hK9, hD9⟩, hS.F ht⟩) hS.2.2 dX7_nameOf_22
  exact L2 FU (0 : Int32) s.heap _ ls h  hP hD hS (lv_sub hl [0, 1, 2] rfl)
theorem dX7_isWord_0 : decode cX7_isWord 0 = .ok (.aload_n 0, 1) := by decide +kernel
theorem dX7_isWord_1 : decode cX7_isWord 1 = .ok (.getfield 22, 3) := by decide +kernel
theorem dX7_isWord_12 : decode cX7_isWord 12 = .ok (.aload_n 0, 1) := by decide +kernel
theorem dX7_isWord_13 : decode cX7_isWord 13 = .ok (.getfield 25, 3) := by decide +kernel
theorem dX7_isWord_16 : decode cX7_isWord 16 = .ok (.isub, 1) := by decide +kernel
theorem dX7_isWord_17 : decode cX7_isWord 17 = .ok (.aload_n 1, 1) := by decide +kernel
theorem dX7_isWord_18 : decode cX7_isWord 18 = .ok (.invokevirtual 231, 3) := by decide +kernel
theorem dX7_isWord_21 : decode cX7_isWord 21 = .ok (.if_icmp .eq 5, 3) := by decide +kernel
theorem dX7_isWord_24 : decode cX7_isWord 24 = .ok (.iconst 0, 1) := by decide +kernel
theorem dX7_isWord_25 : decode cX7_isWord 25 = .ok (.ireturn, 1) := by decide +kernel
theorem dX7_isWord_26 : decode cX7_isWord 26 = .ok (.iconst 0, 1) := by decide +kernel
theorem dX7_isWord_27 : decode cX7_isWord 27 = .ok (.istore_n 2, 1) := by decide +kernel
theorem dX7_isWord_28 : decode cX7_isWord 28 = .ok (.iload_n 2, 1) := by decide +kernel
theorem dX7_isWord_29 : decode cX7_isWord 29 = .ok (.aload_n 1, 1) := by decide +kernel
theorem dX7_isWord_30 : decode cX7_isWord 30 = .ok (.invokevirtual 231, 3) := by decide +kernel
theorem dX7_isWord_33 : decode cX7_isWord 33 = .ok (.if_icmp .ge 30, 3) := by decide +kernel
theorem dX7_isWord_36 : decode cX7_isWord 36 = .ok (.aload_n 0, 1) := by decide +kernel
theorem dX7_isWord_37 : decode cX7_isWord 37 = .ok (.getfield 9, 3) := by decide +kernel
theorem dX7_isWord_4 : decode cX7_isWord 4 = .ok (.iconst 1, 1) := by decide +kernel
theorem dX7_isWord_40 : decode cX7_isWord 40 = .ok (.aload_n 0, 1) := by decide +kernel
theorem dX7_isWord_41 : decode cX7_isWord 41 = .ok (.getfield 25, 3) := by decide +kernel
theorem dX7_isWord_44 : decode cX7_isWord 44 = .ok (.iload_n 2, 1) := by decide +kernel
theorem dX7_isWord_45 : decode cX7_isWord 45 = .ok (.iadd, 1) := by decide +kernel
theorem dX7_isWord_46 : decode cX7_isWord 46 = .ok (.baload, 1) := by decide +kernel
theorem dX7_isWord_47 : decode cX7_isWord 47 = .ok (.aload_n 1, 1) := by decide +kernel
theorem dX7_isWord_48 : decode cX7_isWord 48 = .ok (.iload_n 2, 1) := by decide +kernel
theorem dX7_isWord_49 : decode cX7_isWord 49 = .ok (.invokevirtual 237, 3) := by decide +kernel
theorem dX7_isWord_5 : decode cX7_isWord 5 = .ok (.if_icmp .ne 19, 3) := by decide +kernel
theorem dX7_isWord_52 : decode cX7_isWord 52 = .ok (.if_icmp .eq 5, 3) := by decide +kernel
theorem dX7_isWord_55 : decode cX7_isWord 55 = .ok (.iconst 0, 1) := by decide +kernel
theorem dX7_isWord_56 : decode cX7_isWord 56 = .ok (.ireturn, 1) := by decide +kernel
theorem dX7_isWord_57 : decode cX7_isWord 57 = .ok (.iinc 2 1, 3) := by decide +kernel
theorem dX7_isWord_60 : decode cX7_isWord 60 = .ok (.goto (-32), 3) := by decide +kernel
theorem dX7_isWord_63 : decode cX7_isWord 63 = .ok (.iconst 1, 1) := by decide +kernel
theorem dX7_isWord_64 : decode cX7_isWord 64 = .ok (.ireturn, 1) := by decide +kernel
theorem dX7_isWord_8 : decode cX7_isWord 8 = .ok (.aload_n 0, 1) := by decide +kernel
theorem dX7_isWord_9 : decode cX7_isWord 9 = .ok (.getfield 28, 3) := by decide +kernel
def vfX7_isWord : List Cond := List.cons (.code yX7_isWord cX7_isWord 3 (some .boolean)) (apW [.fieldLink RX7 22 "HookPier$Reader" "token" "I", .fieldLink RX7 28 "HookPier$Reader" "behind" "I", .fieldLink RX7 25 "HookPier$Reader" "start" "I", .methodLink RX7 231 yJ0_length_8abf5, .instanceMethod yJ0_length_8abf5, .selects RJ0 yJ0_length_8abf5 yJ0_length_8abf5, .initialized RJ0, .fieldLink RX7 9 "HookPier$Reader" "text" "[B", .methodLink RX7 237 yJ0_charAt_5068e, .instanceMethod yJ0_charAt_5068e, .selects RJ0 yJ0_charAt_5068e yJ0_charAt_5068e] (apW wsX70 (apW vfJ0_length (vfJ0_charAt))))
theorem ifX7_isWord_X7 : ∀ w ∈ wsX70, w ∈ vfX7_isWord := fun _ h => (List.mem_cons_of_mem _ (List.mem_append_right _ (List.mem_append_left _ h)))
theorem qfX7_isWord : Good vfX7_isWord := gd_cons (by decide +kernel) (gd_app (gd_dec (by decide +kernel) : Good [.fieldLink RX7 22 "HookPier$Reader" "token" "I", .fieldLink RX7 28 "HookPier$Reader" "behind" "I", .fieldLink RX7 25 "HookPier$Reader" "start" "I", .methodLink RX7 231 yJ0_length_8abf5, .instanceMethod yJ0_length_8abf5, .selects RJ0 yJ0_length_8abf5 yJ0_length_8abf5, .initialized RJ0, .fieldLink RX7 9 "HookPier$Reader" "text" "[B", .methodLink RX7 237 yJ0_charAt_5068e, .instanceMethod yJ0_charAt_5068e, .selects RJ0 yJ0_charAt_5068e yJ0_charAt_5068e]) (gd_app qsX7 (gd_app qfJ0_length qfJ0_charAt)))
theorem gfX7_isWord_0 : GoodIn vfX7_isWord (wsV RX7 231 RJ0 yJ0_length_8abf5 vfJ0_length) := goodIn_app (goodIn_r [.methodLink RX7 231 yJ0_length_8abf5, .instanceMethod yJ0_length_8abf5, .selects RJ0 yJ0_length_8abf5 yJ0_length_8abf5, .initialized RJ0] [4, 5, 6, 7] rfl (by decide +kernel)) (goodIn_m (fun _ h => (List.mem_cons_of_mem _ (List.mem_append_right _ (List.mem_append_right _ (List.mem_append_left _ h))))) qfJ0_length)
theorem gfX7_isWord_1 : GoodIn vfX7_isWord (wsV RX7 237 RJ0 yJ0_charAt_5068e vfJ0_charAt) := goodIn_app (goodIn_r [.methodLink RX7 237 yJ0_charAt_5068e, .instanceMethod yJ0_charAt_5068e, .selects RJ0 yJ0_charAt_5068e yJ0_charAt_5068e, .initialized RJ0] [9, 10, 11, 7] rfl (by decide +kernel)) (goodIn_m (fun _ h => (List.mem_cons_of_mem _ (List.mem_append_right _ (List.mem_append_right _ (List.mem_append_right _ h))))) qfJ0_charAt)
set_option maxHeartbeats 2000000 in
set_option maxRecDepth 100000 in
theorem kfX7_isWord (l : Launch) (dC : Nat → ClassId) (dI : Nat → Nat → Nat) (a0 : Nat) (a1 : Nat) (w1 : List Int32) (ur : Nat → Nat) (kr : Nat → ClassId) (r_r : TX7_r) (sz : Nat) (B : Nat) (out : Int32) (h : f_X7_isWord w1 r_r = some out) : Met l yX7_isWord vfX7_isWord ({ frames := 4, cells := 0, slots := 0, locals := 85 }) (PF (dC, dI) B [.ref a0, .ref a1] sz (bX7 a0 ur kr r_r []) (tX7 kr ([])) [(a1, w1)]) (va_Qi (S := Unit) (fun (r : Int32) _ => r = out ∧ (0 ≤ r.toInt ∧ r.toInt ≤ 1)) (fun _ t => BC (dC, dI) (va_A (bX7 a0 ur kr r_r []) sz) (bX7 a0 ur kr r_r []) [] t) (va_A (bX7 a0 ur kr r_r []) sz)) 0 0 (va_A (bX7 a0 ur kr r_r []) sz) := by
  refine Met.ofW (cc := cX7_isWord) (maxL := 3) (ret := (some .boolean)) (by decide) rfl ?_
  intro p e s m args below meth c s₁ B0 hml hv
  obtain ⟨rfl, hsz, hP, hK, hD0, hN, hBs, hE, hX⟩ := hv
  have hBA := PF_reg hD0 hBs
  have xs1 : S1 B a1 w1 s := hX (a1, w1) (List.mem_of_getElem? (i := 0) rfl)
  have hx := B0.exec
  have hb := B0.bytes
  have hr := B0.returns
  have hts := atoms_spec (ws := vfX7_isWord) B0.pre
  have hown : s.vm.findClass RX7 = some m.cls := findClass_of_methodNamed B0.named
  have hlocks := B0.notSynchronized
  subst hsz
  have hD := hD0.self (sz := s.heap.size)
  generalize hAe : va_A (bX7 a0 ur kr r_r []) s.heap.size = A at hD hBA ⊢
  have hA : ∀ q : Nat, s.heap.size ≤ q → A q := fun q h => by rw [← hAe]; exact Or.inr h
  have hS : va_S A s.heap s.heap [] := va_S.rf
  have hP : va_P (dC, dI) vwCl (bX7 a0 ur kr r_r []) s.heap := hP
  have hl := lv_entry ([.ref a0, .ref a1]) (n := 3) (Nat.le_of_ble_eq_true rfl)
  rw [lg_entry_eq]
  generalize (lg_sl ([.ref a0, .ref a1]) ++ List.replicate (3 - (lg_sl ([.ref a0, .ref a1])).length) Slot.unset).toArray = ls at hl ⊢
  have hl : lv_has ls 3 [(0, .ref a0), (1, .ref a1)] := hl
  have hB : RB B s A := ⟨hBA, hBs⟩
  refine W_q (fun QQ hQQ => ?_)
  rw [f_X7_isWord] at h
  refine lv_aload_n hx hb dX7_isWord_0 rfl (lv_at hl 0 rfl) ?_
  refine va_get (D := (dC, dI)) (ci := 5) (v := .int r_r.2.2.2.1) (C := RX7) (T := TX7) (N := 12) hx hb hts ifX7_isWord_X7 hown hK hP 0 rfl rfl 3 (by decide) (hts (.fieldLink RX7 22 "HookPier$Reader" "token" "I") (List.mem_of_getElem? (i := 1) rfl)) (fun _ h9 => h9) rfl dX7_isWord_1 ?_
  refine lv_iconst (v := 1) hx hb dX7_isWord_4 (by decide) ?_
  refine lv_icmp_ne (tgt := 24) hx hb dX7_isWord_5 (by decide) (fun c5 => ?_) (fun c5 => ?_)
  · have h := (if_neg c5).symm.trans h
    refine lv_iconst (v := 0) hx hb dX7_isWord_24 (by decide) ?_
    obtain rfl := Option.some.inj h
    have hP9 := hP.sub (ws' := (bX7 a0 ur kr r_r [])) [0, 1, 2, 3] rfl
    have hD9 := hD.sub (ws' := (bX7 a0 ur kr r_r [])) [0, 1, 2, 3] (by decide) rfl
    have hK9 := hK.sub (tys' := []) [] rfl
    rw [hQQ]
    exact W.zret (v := (0 : Int32)) hx hb hr rfl (fun t ht hW => ⟨⟨(0 : Int32), (), rfl, ⟨rfl, (by decide)⟩, by rw [ht]; exact hP9, va_K.moved hW.alike hK9, hD9⟩, hS.F ht⟩) hS.2.2 dX7_isWord_25
  · have h := (if_pos c5).symm.trans h
    refine lv_aload_n hx hb dX7_isWord_8 rfl (lv_at hl 0 rfl) ?_
    refine va_get (D := (dC, dI)) (ci := 5) (v := .int r_r.2.2.2.2.2.1) (C := RX7) (T := TX7) (N := 12) hx hb hts ifX7_isWord_X7 hown hK hP 0 rfl rfl 5 (by decide) (hts (.fieldLink RX7 28 "HookPier$Reader" "behind" "I") (List.mem_of_getElem? (i := 2) rfl)) (fun _ h9 => h9) rfl dX7_isWord_9 ?_
    refine lv_aload_n hx hb dX7_isWord_12 rfl (lv_at hl 0 rfl) ?_
    refine va_get (D := (dC, dI)) (ci := 5) (v := .int r_r.2.2.2.2.1) (C := RX7) (T := TX7) (N := 12) hx hb hts ifX7_isWord_X7 hown hK hP 0 rfl rfl 4 (by decide) (hts (.fieldLink RX7 25 "HookPier$Reader" "start" "I") (List.mem_of_getElem? (i := 3) rfl)) (fun _ h9 => h9) rfl dX7_isWord_13 ?_
    refine lv_isub hx hb dX7_isWord_16 ?_
    refine lv_aload_n hx hb dX7_isWord_17 rfl (lv_at hl 1 rfl) ?_
    refine cl_i (D := (dC, dI)) (w1 := fun _ => []) (tys1 := fun _ => []) (wc := []) (wr := (bX7 a0 ur kr r_r [])) (va_runV (As := []) (rest := [.int (r_r.2.2.2.2.2.1 - r_r.2.2.2.2.1)]) ⟨hx, hb, hml, hown, hts⟩ (kfJ0_length l dC dI a1 w1 s.heap.size B) (cwV 0 hts gfX7_isWord_0 rfl rfl rfl (by decide +kernel) ⟨(Nat.le_of_ble_eq_true rfl), (Nat.le_of_ble_eq_true rfl)⟩) (PVS hK hN hS hB hE xs1) rfl rfl hl.1 rfl (lv_room (Nat.le_of_ble_eq_true rfl)) dX7_isWord_18 ⟨(Nat.le_of_ble_eq_true rfl), (Nat.le_of_ble_eq_true rfl)⟩) hP hD hK hS hA [] [0, 1, 2, 3] rfl rfl (by decide) (by decide) (fun r18 _ H locs hw hP hD _ hS => ?_)
    obtain rfl := hw
    have hP : va_P (dC, dI) vwCl (bX7 a0 ur kr r_r []) H := hP
    have hD : va_D A (bX7 a0 ur kr r_r []) := hD
    refine lv_icmp_eq (tgt := 26) hx hb dX7_isWord_21 (by decide) (fun c21 => ?_) (fun c21 => ?_)
    · have h := (if_pos c21).symm.trans h
      refine lv_iconst (v := 0) hx hb dX7_isWord_26 (by decide) ?_
      refine lv_istore_n (lv' := [(2, .int 0), (0, .ref a0), (1, .ref a1)]) hx hb dX7_isWord_27 rfl hl (by decide) rfl (fun ls hl => ?_)
      have L28 : ∀ (n28 : Nat) (v28_l2 : Int32) (H : Heap) (locs : List Loc) (ls : Array Slot), f_X7_isWord_L28 w1 r_r n28 v28_l2 = some out → va_P (dC, dI) vwCl (bX7 a0 ur kr r_r []) H → va_D A (bX7 a0 ur kr r_r []) → va_S A s.heap H locs → lv_has ls 3 [(2, .int v28_l2), (0, .ref a0), (1, .ref a1)] → W p l e (headSpec vfX7_isWord { frames := 4, cells := 0, slots := 0, locals := 85 }).room s m ([.ref a0, .ref a1]).toArray below meth c H locs 0 0 QQ (F0 m 28 ls []) := by
        intro n28
        induction n28 with
        | zero =>
          intro v28_l2 H locs ls h  _ _ _ _
          rw [f_X7_isWord_L28] at h
          cases h
        | succ n28 ih28 =>
          intro v28_l2 H locs ls h  hP hD hS hl
          rw [f_X7_isWord_L28] at h
          refine lv_iload_n hx hb dX7_isWord_28 rfl (lv_at hl 0 rfl) ?_
          refine lv_aload_n hx hb dX7_isWord_29 rfl (lv_at hl 2 rfl) ?_
          refine cl_i (D := (dC, dI)) (w1 := fun _ => []) (tys1 := fun _ => []) (wc := []) (wr := (bX7 a0 ur kr r_r [])) (va_runV (As := []) (rest := [.int v28_l2]) ⟨hx, hb, hml, hown, hts⟩ (kfJ0_length l dC dI a1 w1 H.size B) (cwV 0 hts gfX7_isWord_0 rfl rfl rfl (by decide +kernel) ⟨(Nat.le_of_ble_eq_true rfl), (Nat.le_of_ble_eq_true rfl)⟩) (PVS hK hN hS hB hE xs1) rfl rfl hl.1 rfl (lv_room (Nat.le_of_ble_eq_true rfl)) dX7_isWord_30 ⟨(Nat.le_of_ble_eq_true rfl), (Nat.le_of_ble_eq_true rfl)⟩) hP hD hK hS hA [] [0, 1, 2, 3] rfl rfl (by decide) (by decide) (fun r30 _ H locs hw hP hD _ hS => ?_)
          obtain rfl := hw
          have hP : va_P (dC, dI) vwCl (bX7 a0 ur kr r_r []) H := hP
          have hD : va_D A (bX7 a0 ur kr r_r []) := hD
          refine lv_icmp_ge (tgt := 63) hx hb dX7_isWord_33 (by decide) (fun c33 => ?_) (fun c33 => ?_)
          · have h := (if_pos c33).symm.trans h
            refine lv_iconst (v := 1) hx hb dX7_isWord_63 (by decide) ?_
            obtain rfl := Option.some.inj h
            have hP9 := hP.sub (ws' := (bX7 a0 ur kr r_r [])) [0, 1, 2, 3] rfl
            have hD9 := hD.sub (ws' := (bX7 a0 ur kr r_r [])) [0, 1, 2, 3] (by decide) rfl
            have hK9 := hK.sub (tys' := []) [] rfl
            rw [hQQ]
            exact W.zret (v := (1 : Int32)) hx hb hr rfl (fun t ht hW => ⟨⟨(1 : Int32), (), rfl, ⟨rfl, (by decide)⟩, by rw [ht]; exact hP9, va_K.moved hW.alike hK9, hD9⟩, hS.F ht⟩) hS.2.2 dX7_isWord_64
          · have h := (if_neg c33).symm.trans h
            refine lv_aload_n hx hb dX7_isWord_36 rfl (lv_at hl 1 rfl) ?_
            refine va_get (D := (dC, dI)) (ci := 5) (v := .ref (ur 0)) (C := RX7) (T := TX7) (N := 12) hx hb hts ifX7_isWord_X7 hown hK hP 0 rfl rfl 0 (by decide) (hts (.fieldLink RX7 9 "HookPier$Reader" "text" "[B") (List.mem_of_getElem? (i := 8) rfl)) (fun _ h9 => h9) rfl dX7_isWord_37 ?_
            refine lv_aload_n hx hb dX7_isWord_40 rfl (lv_at hl 1 rfl) ?_
            refine va_get (D := (dC, dI)) (ci := 5) (v := .int r_r.2.2.2.2.1) (C := RX7) (T := TX7) (N := 12) hx hb hts ifX7_isWord_X7 hown hK hP 0 rfl rfl 4 (by decide) (hts (.fieldLink RX7 25 "HookPier$Reader" "start" "I") (List.mem_of_getElem? (i := 3) rfl)) (fun _ h9 => h9) rfl dX7_isWord_41 ?_
            refine lv_iload_n hx hb dX7_isWord_44 rfl (lv_at hl 0 rfl) ?_
            refine lv_iadd hx hb dX7_isWord_45 ?_
            obtain ⟨hg46, h⟩ := gA_of h
            refine va_bald hx hb hK hP 1 0 rfl rfl hg46 dX7_isWord_46 ?_
            refine lv_aload_n hx hb dX7_isWord_47 rfl (lv_at hl 2 rfl) ?_
            refine lv_iload_n hx hb dX7_isWord_48 rfl (lv_at hl 0 rfl) ?_
            obtain ⟨hg49, h⟩ := gA_of h
            refine cl_i (D := (dC, dI)) (w1 := fun _ => []) (tys1 := fun _ => []) (wc := []) (wr := (bX7 a0 ur kr r_r [])) (va_runV (As := [.int v28_l2]) (rest := [.int (r_r.1 ((r_r.2.2.2.2.1 + v28_l2)).toNatClampNeg)]) ⟨hx, hb, hml, hown, hts⟩ (kfJ0_charAt l dC dI a1 w1 v28_l2 H.size B hg49) (cwV 1 hts gfX7_isWord_1 rfl rfl rfl (by decide +kernel) ⟨(Nat.le_of_ble_eq_true rfl), (Nat.le_of_ble_eq_true rfl)⟩) (PVS hK hN hS hB hE xs1) rfl rfl hl.1 rfl (lv_room (Nat.le_of_ble_eq_true rfl)) dX7_isWord_49 ⟨(Nat.le_of_ble_eq_true rfl), (Nat.le_of_ble_eq_true rfl)⟩) hP hD hK hS hA [] [0, 1, 2, 3] rfl rfl (by decide) (by decide) (fun r49 _ H locs hw hP hD _ hS => ?_)
            obtain rfl := hw
            have hP : va_P (dC, dI) vwCl (bX7 a0 ur kr r_r []) H := hP
            have hD : va_D A (bX7 a0 ur kr r_r []) := hD
            refine lv_icmp_eq (tgt := 57) hx hb dX7_isWord_52 (by decide) (fun c52 => ?_) (fun c52 => ?_)
            · have h := (if_pos c52).symm.trans h
              refine lv_iinc (v := (v28_l2 + (1 : Int32))) (lv' := [(2, .int (v28_l2 + (1 : Int32))), (0, .ref a0), (1, .ref a1)]) hx hb dX7_isWord_57 hl (k := 0) rfl rfl (by decide) rfl (fun ls hl => ?_)
              refine lv_goto (tgt := 28) hx hb dX7_isWord_60 (by decide) ?_
              exact ih28 (v28_l2 + (1 : Int32)) H _ ls h  hP hD hS (lv_sub hl [0, 1, 2] rfl)
            · have h := (if_neg c52).symm.trans h
              refine lv_iconst (v := 0) hx hb dX7_isWord_55 (by decide) ?_
              obtain rfl := Option.some.inj h
              have hP9 := hP.sub (ws' := (bX7 a0 ur kr r_r [])) [0, 1, 2, 3] rfl
              have hD9 := hD.sub (ws' := (bX7 a0 ur kr r_r [])) [0, 1, 2, 3] (by decide) rfl
              have hK9 := hK.sub (tys' := []) [] rfl
              rw [hQQ]
              exact W.zret (v := (0 : Int32)) hx hb hr rfl (fun t ht hW => ⟨⟨(0 : Int32), (), rfl, ⟨rfl, (by decide)⟩, by rw [ht]; exact hP9, va_K.moved hW.alike hK9, hD9⟩, hS.F ht⟩) hS.2.2 dX7_isWord_56
      exact L28 FU (0 : Int32) H _ ls h  hP hD hS (lv_sub hl [0, 1, 2] rfl)
    · have h := (if_neg c21).symm.trans h
      refine lv_iconst (v := 0) hx hb dX7_isWord_24 (by decide) ?_
      obtain rfl := Option.some.inj h
      have hP9 := hP.sub (ws' := (bX7 a0 ur kr r_r [])) [0, 1, 2, 3] rfl
      have hD9 := hD.sub (ws' := (bX7 a0 ur kr r_r [])) [0, 1, 2, 3] (by decide) rfl
      have hK9 := hK.sub (tys' := []) [] rfl
      rw [hQQ]
      exact W.zret (v := (0 : Int32)) hx hb hr rfl (fun t ht hW => ⟨⟨(0 : Int32), (), rfl, ⟨rfl, (by decide)⟩, by rw [ht]; exact hP9, va_K.moved hW.alike hK9, hD9⟩, hS.F ht⟩) hS.2.2 dX7_isWord_25
theorem dX7_takeWord_0 : decode cX7_takeWord 0 = .ok (.aload_n 0, 1) := by decide +kernel
theorem dX7_takeWord_1 : decode cX7_takeWord 1 = .ok (.aload_n 1, 1) := by decide +kernel
theorem dX7_takeWord_10 : decode cX7_takeWord 10 = .ok (.invokevirtual 72, 3) := by decide +kernel
theorem dX7_takeWord_13 : decode cX7_takeWord 13 = .ok (.ireturn, 1) := by decide +kernel
theorem dX7_takeWord_14 : decode cX7_takeWord 14 = .ok (.aload_n 0, 1) := by decide +kernel
theorem dX7_takeWord_15 : decode cX7_takeWord 15 = .ok (.invokevirtual 62, 3) := by decide +kernel
theorem dX7_takeWord_18 : decode cX7_takeWord 18 = .ok (.iconst 1, 1) := by decide +kernel
theorem dX7_takeWord_19 : decode cX7_takeWord 19 = .ok (.ireturn, 1) := by decide +kernel
theorem dX7_takeWord_2 : decode cX7_takeWord 2 = .ok (.invokevirtual 78, 3) := by decide +kernel
theorem dX7_takeWord_5 : decode cX7_takeWord 5 = .ok (.ifCond .ne 9, 3) := by decide +kernel
theorem dX7_takeWord_8 : decode cX7_takeWord 8 = .ok (.aload_n 0, 1) := by decide +kernel
theorem dX7_takeWord_9 : decode cX7_takeWord 9 = .ok (.iconst 1, 1) := by decide +kernel
def vfX7_takeWord : List Cond := List.cons (.code yX7_takeWord cX7_takeWord 2 (some .boolean)) (apW [.methodLink RX7 78 yX7_isWord, .instanceMethod yX7_isWord, .selects RX7 yX7_isWord yX7_isWord, .initialized RX7, .methodLink RX7 62 yX7_advance, .instanceMethod yX7_advance, .selects RX7 yX7_advance yX7_advance, .methodLink RX7 72 yX7_fail, .instanceMethod yX7_fail, .selects RX7 yX7_fail yX7_fail] (apW vfX7_isWord (apW vfX7_advance (vfX7_fail))))
theorem qfX7_takeWord : Good vfX7_takeWord := gd_cons (by decide +kernel) (gd_app (gd_dec (by decide +kernel) : Good [.methodLink RX7 78 yX7_isWord, .instanceMethod yX7_isWord, .selects RX7 yX7_isWord yX7_isWord, .initialized RX7, .methodLink RX7 62 yX7_advance, .instanceMethod yX7_advance, .selects RX7 yX7_advance yX7_advance, .methodLink RX7 72 yX7_fail, .instanceMethod yX7_fail, .selects RX7 yX7_fail yX7_fail]) (gd_app qfX7_isWord (gd_app qfX7_advance qfX7_fail)))
theorem gfX7_takeWord_0 : GoodIn vfX7_takeWord (wsV RX7 78 RX7 yX7_isWord vfX7_isWord) := goodIn_app (goodIn_r [.methodLink RX7 78 yX7_isWord, .instanceMethod yX7_isWord, .selects RX7 yX7_isWord yX7_isWord, .initialized RX7] [1, 2, 3, 4] rfl (by decide +kernel)) (goodIn_m (fun _ h => (List.mem_cons_of_mem _ (List.mem_append_right _ (List.mem_append_left _ h)))) qfX7_isWord)
theorem gfX7_takeWord_1 : GoodIn vfX7_takeWord (wsV RX7 62 RX7 yX7_advance vfX7_advance) := goodIn_app (goodIn_r [.methodLink RX7 62 yX7_advance, .instanceMethod yX7_advance, .selects RX7 yX7_advance yX7_advance, .initialized RX7] [5, 6, 7, 4] rfl (by decide +kernel)) (goodIn_m (fun _ h => (List.mem_cons_of_mem _ (List.mem_append_right _ (List.mem_append_right _ (List.mem_append_left _ h))))) qfX7_advance)
theorem gfX7_takeWord_2 : GoodIn vfX7_takeWord (wsV RX7 72 RX7 yX7_fail vfX7_fail) := goodIn_app (goodIn_r [.methodLink RX7 72 yX7_fail, .instanceMethod yX7_fail, .selects RX7 yX7_fail yX7_fail, .initialized RX7] [8, 9, 10, 4] rfl (by decide +kernel)) (goodIn_m (fun _ h => (List.mem_cons_of_mem _ (List.mem_append_right _ (List.mem_append_right _ (List.mem_append_right _ h))))) qfX7_fail)
set_option maxHeartbeats 2000000 in
set_option maxRecDepth 100000 in
theorem kfX7_takeWord (l : Launch) (dC : Nat → ClassId) (dI : Nat → Nat → Nat) (a0 : Nat) (a1 : Nat) (w1 : List Int32) (ur : Nat → Nat) (kr : Nat → ClassId) (r_r : TX7_r) (sz : Nat) (B : Nat) (out : (Int32 × TX7_r)) (h : f_X7_takeWord w1 r_r = some out) : Met l yX7_takeWord vfX7_takeWord ({ frames := 5, cells := 0, slots := 0, locals := 107 }) (PF (dC, dI) B [.ref a0, .ref a1] sz (bX7 a0 ur kr r_r []) (tX7 kr ([])) [(a1, w1)]) (va_Qi (S := Unit) (fun (r : Int32) _ => r = out.1 ∧ (0 ≤ r.toInt ∧ r.toInt ≤ 1)) (fun _ t => BC (dC, dI) (va_A (bX7 a0 ur kr r_r []) sz) (bX7 a0 ur kr out.2 []) [] t) (va_A (bX7 a0 ur kr r_r []) sz)) 0 0 (va_A (bX7 a0 ur kr r_r []) sz) := by
  refine Met.ofW (cc := cX7_takeWord) (maxL := 2) (ret := (some .boolean)) (by decide) rfl ?_
  intro p e s m args below meth c s₁ B0 hml hv
  obtain ⟨rfl, hsz, hP, hK, hD0, hN, hBs, hE, hX⟩ := hv
  have hBA := PF_reg hD0 hBs
  have xs1 : S1 B a1 w1 s := hX (a1, w1) (List.mem_of_getElem? (i := 0) rfl)
  have hx := B0.exec
  have hb := B0.bytes
  have hr := B0.returns
  have hts := atoms_spec (ws := vfX7_takeWord) B0.pre
  have hown : s.vm.findClass RX7 = some m.cls := findClass_of_methodNamed B0.named
  have hlocks := B0.notSynchronized
  subst hsz
  have hD := hD0.self (sz := s.heap.size)
  generalize hAe : va_A (bX7 a0 ur kr r_r []) s.heap.size = A at hD hBA ⊢
  have hA : ∀ q : Nat, s.heap.size ≤ q → A q := fun q h => by rw [← hAe]; exact Or.inr h
  have hS : va_S A s.heap s.heap [] := va_S.rf
  have hP : va_P (dC, dI) vwCl (bX7 a0 ur kr r_r []) s.heap := hP
  have hl := lv_entry ([.ref a0, .ref a1]) (n := 2) (Nat.le_of_ble_eq_true rfl)
  rw [lg_entry_eq]
  generalize (lg_sl ([.ref a0, .ref a1]) ++ List.replicate (2 - (lg_sl ([.ref a0, .ref a1])).length) Slot.unset).toArray = ls at hl ⊢
  have hl : lv_has ls 2 [(0, .ref a0), (1, .ref a1)] := hl
  have hB : RB B s A := ⟨hBA, hBs⟩
  refine W_q (fun QQ hQQ => ?_)
  rw [f_X7_takeWord] at h
  refine lv_aload_n hx hb dX7_takeWord_0 rfl (lv_at hl 0 rfl) ?_
  refine lv_aload_n hx hb dX7_takeWord_1 rfl (lv_at hl 1 rfl) ?_
  obtain ⟨o2, eo2, h⟩ := bd_of h
  refine cl_i (wc := (bX7 a0 ur kr r_r [])) (wr := []) (va_runV (As := [.ref a1]) (rest := []) ⟨hx, hb, hml, hown, hts⟩ (kfX7_isWord l dC dI a0 a1 w1 ur kr r_r s.heap.size B o2 eo2) (cwV 1 hts gfX7_takeWord_0 rfl rfl rfl (by decide +kernel) ⟨(Nat.le_of_ble_eq_true rfl), (Nat.le_of_ble_eq_true rfl)⟩) (PVF (hP.sub (ws' := (bX7 a0 ur kr r_r [])) [0, 1, 2, 3] rfl) (hK.sub (tys' := (tX7 kr ([]))) [0, 1, 2] rfl) (hD.sub (ws' := (bX7 a0 ur kr r_r [])) [0, 1, 2, 3] (by decide) rfl) hN hS hB hE (S1c xs1 S1n) 0 rfl rfl) rfl rfl hl.1 rfl (lv_room (Nat.le_of_ble_eq_true rfl)) dX7_takeWord_2 ⟨(Nat.le_of_ble_eq_true rfl), (Nat.le_of_ble_eq_true rfl)⟩) hP hD hK hS hA [0, 1, 2, 3] [] rfl rfl (by decide) (by decide) (fun r2 _ H locs hw hP hD _ hS => ?_)
  obtain ⟨hw, br2⟩ := hw
  obtain rfl := hw.symm
  have hP : va_P (dC, dI) vwCl (bX7 a0 ur kr r_r []) H := hP
  have hD : va_D A (bX7 a0 ur kr r_r []) := hD
  refine lv_if_ne (tgt := 14) hx hb dX7_takeWord_5 (by decide) (fun c5 => ?_) (fun c5 => ?_)
  · have h := (if_neg c5).symm.trans h
    refine lv_aload_n hx hb dX7_takeWord_14 rfl (lv_at hl 0 rfl) ?_
    obtain ⟨o15, eo15, h⟩ := bd_of h
    refine cl_v (wc := (bX7 a0 ur kr r_r [])) (wr := []) (va_runV (As := []) (rest := []) ⟨hx, hb, hml, hown, hts⟩ (kfX7_advance l dC dI a0 ur kr r_r H.size o15 eo15) (cwV 0 hts gfX7_takeWord_1 rfl rfl rfl (by decide +kernel) ⟨(Nat.le_of_ble_eq_true rfl), (Nat.le_of_ble_eq_true rfl)⟩) (PV (hP.sub (ws' := (bX7 a0 ur kr r_r [])) [0, 1, 2, 3] rfl) (hK.sub (tys' := (tX7 kr ([]))) [0, 1, 2] rfl) (hD.sub (ws' := (bX7 a0 ur kr r_r [])) [0, 1, 2, 3] (by decide) rfl) hN 0 rfl rfl) rfl rfl hl.1 rfl (lv_room (Nat.le_of_ble_eq_true rfl)) dX7_takeWord_15 ⟨(Nat.le_of_ble_eq_true rfl), (Nat.le_of_ble_eq_true rfl)⟩) hP hD hK hS hA [0, 1, 2, 3] [] rfl rfl (by decide) (by decide) (fun _ H locs hw hP hD _ hS => ?_)
    have hP : va_P (dC, dI) vwCl (bX7 a0 ur kr o15 []) H := hP
    have hD : va_D A (bX7 a0 ur kr o15 []) := hD
    refine lv_iconst (v := 1) hx hb dX7_takeWord_18 (by decide) ?_
    obtain rfl := Option.some.inj h
    have hP9 := hP.sub (ws' := (bX7 a0 ur kr o15 [])) [0, 1, 2, 3] rfl
    have hD9 := hD.sub (ws' := (bX7 a0 ur kr o15 [])) [0, 1, 2, 3] (by decide) rfl
    have hK9 := hK.sub (tys' := []) [] rfl
    rw [hQQ]
    exact W.zret (v := (1 : Int32)) hx hb hr rfl (fun t ht hW => ⟨⟨(1 : Int32), (), rfl, ⟨rfl, (by decide)⟩, by rw [ht]; exact hP9, va_K.moved hW.alike hK9, hD9⟩, hS.F ht⟩) hS.2.2 dX7_takeWord_19
  · have h := (if_pos c5).symm.trans h
    refine lv_aload_n hx hb dX7_takeWord_8 rfl (lv_at hl 0 rfl) ?_
    refine lv_iconst (v := 1) hx hb dX7_takeWord_9 (by decide) ?_
    obtain ⟨o10, eo10⟩ : ∃ o, o = f_X7_fail (1 : Int32) r_r := ⟨_, rfl⟩
    have h := nm_of h o10 eo10
    refine cl_i (wc := (bX7 a0 ur kr r_r [])) (wr := []) (va_runV (As := [.int 1]) (rest := []) ⟨hx, hb, hml, hown, hts⟩ (kfX7_fail l dC dI a0 (1 : Int32) ur kr r_r H.size o10 eo10.symm) (cwV 1 hts gfX7_takeWord_2 rfl rfl rfl (by decide +kernel) ⟨(Nat.le_of_ble_eq_true rfl), (Nat.le_of_ble_eq_true rfl)⟩) (PV (hP.sub (ws' := (bX7 a0 ur kr r_r [])) [0, 1, 2, 3] rfl) (hK.sub (tys' := (tX7 kr ([]))) [0, 1, 2] rfl) (hD.sub (ws' := (bX7 a0 ur kr r_r [])) [0, 1, 2, 3] (by decide) rfl) hN 0 rfl rfl) rfl rfl hl.1 rfl (lv_room (Nat.le_of_ble_eq_true rfl)) dX7_takeWord_10 ⟨(Nat.le_of_ble_eq_true rfl), (Nat.le_of_ble_eq_true rfl)⟩) hP hD hK hS hA [0, 1, 2, 3] [] rfl rfl (by decide) (by decide) (fun r10 _ H locs hw hP hD _ hS => ?_)
    obtain ⟨hw, br10⟩ := hw
    obtain rfl := hw
    have hP : va_P (dC, dI) vwCl (bX7 a0 ur kr o10 []) H := hP
    have hD : va_D A (bX7 a0 ur kr o10 []) := hD
    obtain rfl := Option.some.inj h
    have hP9 := hP.sub (ws' := (bX7 a0 ur kr o10 [])) [0, 1, 2, 3] rfl
    have hD9 := hD.sub (ws' := (bX7 a0 ur kr o10 [])) [0, 1, 2, 3] (by decide) rfl
    have hK9 := hK.sub (tys' := []) [] rfl
    rw [hQQ]
    exact W.zret (v := (0 : Int32)) hx hb hr rfl (fun t ht hW => ⟨⟨(0 : Int32), (), rfl, ⟨rfl, (by decide)⟩, by rw [ht]; exact hP9, va_K.moved hW.alike hK9, hD9⟩, hS.F ht⟩) hS.2.2 dX7_takeWord_13
theorem dX7_isName_0 : decode cX7_isName 0 = .ok (.aload_n 0, 1) := by decide +kernel
theorem dX7_isName_1 : decode cX7_isName 1 = .ok (.getfield 22, 3) := by decide +kernel
theorem dX7_isName_11 : decode cX7_isName 11 = .ok (.invokevirtual 78, 3) := by decide +kernel
theorem dX7_isName_14 : decode cX7_isName 14 = .ok (.ifCond .ne 52, 3) := by decide +kernel
theorem dX7_isName_17 : decode cX7_isName 17 = .ok (.aload_n 0, 1) := by decide +kernel
theorem dX7_isName_18 : decode cX7_isName 18 = .ok (.ldc 88, 2) := by decide +kernel
theorem dX7_isName_20 : decode cX7_isName 20 = .ok (.invokevirtual 78, 3) := by decide +kernel
theorem dX7_isName_23 : decode cX7_isName 23 = .ok (.ifCond .ne 43, 3) := by decide +kernel
theorem dX7_isName_26 : decode cX7_isName 26 = .ok (.aload_n 0, 1) := by decide +kernel
theorem dX7_isName_27 : decode cX7_isName 27 = .ok (.ldc 97, 2) := by decide +kernel
theorem dX7_isName_29 : decode cX7_isName 29 = .ok (.invokevirtual 78, 3) := by decide +kernel
theorem dX7_isName_32 : decode cX7_isName 32 = .ok (.ifCond .ne 34, 3) := by decide +kernel
theorem dX7_isName_35 : decode cX7_isName 35 = .ok (.aload_n 0, 1) := by decide +kernel
theorem dX7_isName_36 : decode cX7_isName 36 = .ok (.ldc 105, 2) := by decide +kernel
theorem dX7_isName_38 : decode cX7_isName 38 = .ok (.invokevirtual 78, 3) := by decide +kernel
theorem dX7_isName_4 : decode cX7_isName 4 = .ok (.iconst 1, 1) := by decide +kernel
theorem dX7_isName_41 : decode cX7_isName 41 = .ok (.ifCond .ne 25, 3) := by decide +kernel
theorem dX7_isName_44 : decode cX7_isName 44 = .ok (.aload_n 0, 1) := by decide +kernel
theorem dX7_isName_45 : decode cX7_isName 45 = .ok (.ldc 113, 2) := by decide +kernel
theorem dX7_isName_47 : decode cX7_isName 47 = .ok (.invokevirtual 78, 3) := by decide +kernel
theorem dX7_isName_5 : decode cX7_isName 5 = .ok (.if_icmp .ne 61, 3) := by decide +kernel
theorem dX7_isName_50 : decode cX7_isName 50 = .ok (.ifCond .ne 16, 3) := by decide +kernel
theorem dX7_isName_53 : decode cX7_isName 53 = .ok (.aload_n 0, 1) := by decide +kernel
theorem dX7_isName_54 : decode cX7_isName 54 = .ok (.ldc 121, 2) := by decide +kernel
theorem dX7_isName_56 : decode cX7_isName 56 = .ok (.invokevirtual 78, 3) := by decide +kernel
theorem dX7_isName_59 : decode cX7_isName 59 = .ok (.ifCond .ne 7, 3) := by decide +kernel
theorem dX7_isName_62 : decode cX7_isName 62 = .ok (.iconst 1, 1) := by decide +kernel
theorem dX7_isName_63 : decode cX7_isName 63 = .ok (.goto 4, 3) := by decide +kernel
theorem dX7_isName_66 : decode cX7_isName 66 = .ok (.iconst 0, 1) := by decide +kernel
theorem dX7_isName_67 : decode cX7_isName 67 = .ok (.ireturn, 1) := by decide +kernel
theorem dX7_isName_8 : decode cX7_isName 8 = .ok (.aload_n 0, 1) := by decide +kernel
theorem dX7_isName_9 : decode cX7_isName 9 = .ok (.ldc 76, 2) := by decide +kernel
def vfX7_isName : List Cond := List.cons (.code yX7_isName cX7_isName 1 (some .boolean)) (apW [.fieldLink RX7 22 "HookPier$Reader" "token" "I", .methodLink RX7 78 yX7_isWord, .instanceMethod yX7_isWord, .selects RX7 yX7_isWord yX7_isWord, .initialized RX7] (apW wsX70 (vfX7_isWord)))
theorem ifX7_isName_X7 : ∀ w ∈ wsX70, w ∈ vfX7_isName := fun _ h => (List.mem_cons_of_mem _ (List.mem_append_right _ (List.mem_append_left _ h)))
theorem qfX7_isName : Good vfX7_isName := gd_cons (by decide +kernel) (gd_app (gd_dec (by decide +kernel) : Good [.fieldLink RX7 22 "HookPier$Reader" "token" "I", .methodLink RX7 78 yX7_isWord, .instanceMethod yX7_isWord, .selects RX7 yX7_isWord yX7_isWord, .initialized RX7]) (gd_app qsX7 qfX7_isWord))
theorem gfX7_isName_0 : GoodIn vfX7_isName (wsV RX7 78 RX7 yX7_isWord vfX7_isWord) := goodIn_app (goodIn_r [.methodLink RX7 78 yX7_isWord, .instanceMethod yX7_isWord, .selects RX7 yX7_isWord yX7_isWord, .initialized RX7] [2, 3, 4, 5] rfl (by decide +kernel)) (goodIn_m (fun _ h => (List.mem_cons_of_mem _ (List.mem_append_right _ (List.mem_append_right _ h)))) qfX7_isWord)
set_option maxHeartbeats 2000000 in
set_option maxRecDepth 100000 in
theorem kfX7_isName (l : Launch) (dC : Nat → ClassId) (dI : Nat → Nat → Nat) (a0 : Nat) (ur : Nat → Nat) (kr : Nat → ClassId) (r_r : TX7_r) (sz : Nat) (B : Nat) (out : Int32) (h : f_X7_isName r_r = some out) : Met l yX7_isName vfX7_isName ({ frames := 5, cells := 0, slots := 0, locals := 107 }) (PF (dC, dI) B [.ref a0] sz (bX7 a0 ur kr r_r []) (tX7 kr ([])) []) (va_Qi (S := Unit) (fun (r : Int32) _ => r = out ∧ (0 ≤ r.toInt ∧ r.toInt ≤ 1)) (fun _ t => BC (dC, dI) (va_A (bX7 a0 ur kr r_r []) sz) (bX7 a0 ur kr r_r []) [] t) (va_A (bX7 a0 ur kr r_r []) sz)) 0 0 (va_A (bX7 a0 ur kr r_r []) sz) := by
  refine Met.ofW (cc := cX7_isName) (maxL := 1) (ret := (some .boolean)) (by decide) rfl ?_
  intro p e s m args below meth c s₁ B0 hml hv
  obtain ⟨rfl, hsz, hP, hK, hD0, hN, hBs, hE, hX⟩ := hv
  have hBA := PF_reg hD0 hBs
  have hx := B0.exec
  have hb := B0.bytes
  have hr := B0.returns
  have hts := atoms_spec (ws := vfX7_isName) B0.pre
  have hown : s.vm.findClass RX7 = some m.cls := findClass_of_methodNamed B0.named
  have hlocks := B0.notSynchronized
  subst hsz
  have hD := hD0.self (sz := s.heap.size)
  generalize hAe : va_A (bX7 a0 ur kr r_r []) s.heap.size = A at hD hBA ⊢
  have hA : ∀ q : Nat, s.heap.size ≤ q → A q := fun q h => by rw [← hAe]; exact Or.inr h
  have hS : va_S A s.heap s.heap [] := va_S.rf
  have hP : va_P (dC, dI) vwCl (bX7 a0 ur kr r_r []) s.heap := hP
  have hl := lv_entry ([.ref a0]) (n := 1) (Nat.le_of_ble_eq_true rfl)
  rw [lg_entry_eq]
  generalize (lg_sl ([.ref a0]) ++ List.replicate (1 - (lg_sl ([.ref a0])).length) Slot.unset).toArray = ls at hl ⊢
  have hl : lv_has ls 1 [(0, .ref a0)] := hl
  have hB : RB B s A := ⟨hBA, hBs⟩
  refine W_q (fun QQ hQQ => ?_)
  rw [f_X7_isName] at h
  refine lv_aload_n hx hb dX7_isName_0 rfl (lv_at hl 0 rfl) ?_
  refine va_get (D := (dC, dI)) (ci := 5) (v := .int r_r.2.2.2.1) (C := RX7) (T := TX7) (N := 12) hx hb hts ifX7_isName_X7 hown hK hP 0 rfl rfl 3 (by decide) (hts (.fieldLink RX7 22 "HookPier$Reader" "token" "I") (List.mem_of_getElem? (i := 1) rfl)) (fun _ h9 => h9) rfl dX7_isName_1 ?_
  refine lv_iconst (v := 1) hx hb dX7_isName_4 (by decide) ?_
  refine lv_icmp_ne (tgt := 66) hx hb dX7_isName_5 (by decide) (fun c5 => ?_) (fun c5 => ?_)
  · have h := (if_neg c5).symm.trans h
    refine lv_iconst (v := 0) hx hb dX7_isName_66 (by decide) ?_
    obtain rfl := Option.some.inj h
    have hP9 := hP.sub (ws' := (bX7 a0 ur kr r_r [])) [0, 1, 2, 3] rfl
    have hD9 := hD.sub (ws' := (bX7 a0 ur kr r_r [])) [0, 1, 2, 3] (by decide) rfl
    have hK9 := hK.sub (tys' := []) [] rfl
    rw [hQQ]
    exact W.zret (v := (0 : Int32)) hx hb hr rfl (fun t ht hW => ⟨⟨(0 : Int32), (), rfl, ⟨rfl, (by decide)⟩, by rw [ht]; exact hP9, va_K.moved hW.alike hK9, hD9⟩, hS.F ht⟩) hS.2.2 dX7_isName_67
  · have h := (if_pos c5).symm.trans h
    refine lv_aload_n hx hb dX7_isName_8 rfl (lv_at hl 0 rfl) ?_
    obtain ⟨s9, hs9, xs9⟩ := hE.1 (RX7, 76, "pier", tx_pier) (List.mem_of_getElem? (i := 0) rfl)
    refine va_ldcS hx hb hown hs9 dX7_isName_9 ?_
    obtain ⟨o11, eo11, h⟩ := bd_of h
    refine cl_i (wc := (bX7 a0 ur kr r_r [])) (wr := []) (va_runV (As := [.ref s9]) (rest := []) ⟨hx, hb, hml, hown, hts⟩ (kfX7_isWord l dC dI a0 s9 tx_pier ur kr r_r s.heap.size B o11 eo11) (cwV 1 hts gfX7_isName_0 rfl rfl rfl (by decide +kernel) ⟨(Nat.le_of_ble_eq_true rfl), (Nat.le_of_ble_eq_true rfl)⟩) (PVF (hP.sub (ws' := (bX7 a0 ur kr r_r [])) [0, 1, 2, 3] rfl) (hK.sub (tys' := (tX7 kr ([]))) [0, 1, 2] rfl) (hD.sub (ws' := (bX7 a0 ur kr r_r [])) [0, 1, 2, 3] (by decide) rfl) hN hS hB hE (S1c xs9 S1n) 0 rfl rfl) rfl rfl hl.1 rfl (lv_room (Nat.le_of_ble_eq_true rfl)) dX7_isName_11 ⟨(Nat.le_of_ble_eq_true rfl), (Nat.le_of_ble_eq_true rfl)⟩) hP hD hK hS hA [0, 1, 2, 3] [] rfl rfl (by decide) (by decide) (fun r11 _ H locs hw hP hD _ hS => ?_)
    obtain ⟨hw, br11⟩ := hw
    obtain rfl := hw.symm
    have hP : va_P (dC, dI) vwCl (bX7 a0 ur kr r_r []) H := hP
    have hD : va_D A (bX7 a0 ur kr r_r []) := hD
    refine lv_if_ne (tgt := 66) hx hb dX7_isName_14 (by decide) (fun c14 => ?_) (fun c14 => ?_)
    · have h := (if_neg c14).symm.trans h
      refine lv_iconst (v := 0) hx hb dX7_isName_66 (by decide) ?_
      obtain rfl := Option.some.inj h
      have hP9 := hP.sub (ws' := (bX7 a0 ur kr r_r [])) [0, 1, 2, 3] rfl
      have hD9 := hD.sub (ws' := (bX7 a0 ur kr r_r [])) [0, 1, 2, 3] (by decide) rfl
      have hK9 := hK.sub (tys' := []) [] rfl
      rw [hQQ]
      exact W.zret (v := (0 : Int32)) hx hb hr rfl (fun t ht hW => ⟨⟨(0 : Int32), (), rfl, ⟨rfl, (by decide)⟩, by rw [ht]; exact hP9, va_K.moved hW.alike hK9, hD9⟩, hS.F ht⟩) hS.2.2 dX7_isName_67
    · have h := (if_pos c14).symm.trans h
      refine lv_aload_n hx hb dX7_isName_17 rfl (lv_at hl 0 rfl) ?_
      obtain ⟨s18, hs18, xs18⟩ := hE.1 (RX7, 88, "bait", tx_bait) (List.mem_of_getElem? (i := 5) rfl)
      refine va_ldcS hx hb hown hs18 dX7_isName_18 ?_
      obtain ⟨o20, eo20, h⟩ := bd_of h
      refine cl_i (wc := (bX7 a0 ur kr r_r [])) (wr := []) (va_runV (As := [.ref s18]) (rest := []) ⟨hx, hb, hml, hown, hts⟩ (kfX7_isWord l dC dI a0 s18 tx_bait ur kr r_r H.size B o20 eo20) (cwV 1 hts gfX7_isName_0 rfl rfl rfl (by decide +kernel) ⟨(Nat.le_of_ble_eq_true rfl), (Nat.le_of_ble_eq_true rfl)⟩) (PVF (hP.sub (ws' := (bX7 a0 ur kr r_r [])) [0, 1, 2, 3] rfl) (hK.sub (tys' := (tX7 kr ([]))) [0, 1, 2] rfl) (hD.sub (ws' := (bX7 a0 ur kr r_r [])) [0, 1, 2, 3] (by decide) rfl) hN hS hB hE (S1c xs18 S1n) 0 rfl rfl) rfl rfl hl.1 rfl (lv_room (Nat.le_of_ble_eq_true rfl)) dX7_isName_20 ⟨(Nat.le_of_ble_eq_true rfl), (Nat.le_of_ble_eq_true rfl)⟩) hP hD hK hS hA [0, 1, 2, 3] [] rfl rfl (by decide) (by decide) (fun r20 _ H locs hw hP hD _ hS => ?_)
      obtain ⟨hw, br20⟩ := hw
      obtain rfl := hw.symm
      have hP : va_P (dC, dI) vwCl (bX7 a0 ur kr r_r []) H := hP
      have hD : va_D A (bX7 a0 ur kr r_r []) := hD
      refine lv_if_ne (tgt := 66) hx hb dX7_isName_23 (by decide) (fun c23 => ?_) (fun c23 => ?_)
      · have h := (if_neg c23).symm.trans h
        refine lv_iconst (v := 0) hx hb dX7_isName_66 (by decide) ?_
        obtain rfl := Option.some.inj h
        have hP9 := hP.sub (ws' := (bX7 a0 ur kr r_r [])) [0, 1, 2, 3] rfl
        have hD9 := hD.sub (ws' := (bX7 a0 ur kr r_r [])) [0, 1, 2, 3] (by decide) rfl
        have hK9 := hK.sub (tys' := []) [] rfl
        rw [hQQ]
        exact W.zret (v := (0 : Int32)) hx hb hr rfl (fun t ht hW => ⟨⟨(0 : Int32), (), rfl, ⟨rfl, (by decide)⟩, by rw [ht]; exact hP9, va_K.moved hW.alike hK9, hD9⟩, hS.F ht⟩) hS.2.2 dX7_isName_67
      · have h := (if_pos c23).symm.trans h
        refine lv_aload_n hx hb dX7_isName_26 rfl (lv_at hl 0 rfl) ?_
        obtain ⟨s27, hs27, xs27⟩ := hE.1 (RX7, 97, "asker", tx_asker) (List.mem_of_getElem? (i := 6) rfl)
        refine va_ldcS hx hb hown hs27 dX7_isName_27 ?_
        obtain ⟨o29, eo29, h⟩ := bd_of h
        refine cl_i (wc := (bX7 a0 ur kr r_r [])) (wr := []) (va_runV (As := [.ref s27]) (rest := []) ⟨hx, hb, hml, hown, hts⟩ (kfX7_isWord l dC dI a0 s27 tx_asker ur kr r_r H.size B o29 eo29) (cwV 1 hts gfX7_isName_0 rfl rfl rfl (by decide +kernel) ⟨(Nat.le_of_ble_eq_true rfl), (Nat.le_of_ble_eq_true rfl)⟩) (PVF (hP.sub (ws' := (bX7 a0 ur kr r_r [])) [0, 1, 2, 3] rfl) (hK.sub (tys' := (tX7 kr ([]))) [0, 1, 2] rfl) (hD.sub (ws' := (bX7 a0 ur kr r_r [])) [0, 1, 2, 3] (by decide) rfl) hN hS hB hE (S1c xs27 S1n) 0 rfl rfl) rfl rfl hl.1 rfl (lv_room (Nat.le_of_ble_eq_true rfl)) dX7_isName_29 ⟨(Nat.le_of_ble_eq_true rfl), (Nat.le_of_ble_eq_true rfl)⟩) hP hD hK hS hA [0, 1, 2, 3] [] rfl rfl (by decide) (by decide) (fun r29 _ H locs hw hP hD _ hS => ?_)
        obtain ⟨hw, br29⟩ := hw
        obtain rfl := hw.symm
        have hP : va_P (dC, dI) vwCl (bX7 a0 ur kr r_r []) H := hP
        have hD : va_D A (bX7 a0 ur kr r_r []) := hD
        refine lv_if_ne (tgt := 66) hx hb dX7_isName_32 (by decide) (fun c32 => ?_) (fun c32 => ?_)
        · have h := (if_neg c32).symm.trans h
          refine lv_iconst (v := 0) hx hb dX7_isName_66 (by decide) ?_
          obtain rfl := Option.some.inj h
          have hP9 := hP.sub (ws' := (bX7 a0 ur kr r_r [])) [0, 1, 2, 3] rfl
          have hD9 := hD.sub (ws' := (bX7 a0 ur kr r_r [])) [0, 1, 2, 3] (by decide) rfl
          have hK9 := hK.sub (tys' := []) [] rfl
          rw [hQQ]
          exact W.zret (v := (0 : Int32)) hx hb hr rfl (fun t ht hW => ⟨⟨(0 : Int32), (), rfl, ⟨rfl, (by decide)⟩, by rw [ht]; exact hP9, va_K.moved hW.alike hK9, hD9⟩, hS.F ht⟩) hS.2.2 dX7_isName_67
        · have h := (if_pos c32).symm.trans h
          refine lv_aload_n hx hb dX7_isName_35 rfl (lv_at hl 0 rfl) ?_
          obtain ⟨s36, hs36, xs36⟩ := hE.1 (RX7, 105, "answer", tx_answer) (List.mem_of_getElem? (i := 7) rfl)
          refine va_ldcS hx hb hown hs36 dX7_isName_36 ?_
          obtain ⟨o38, eo38, h⟩ := bd_of h
          refine cl_i (wc := (bX7 a0 ur kr r_r [])) (wr := []) (va_runV (As := [.ref s36]) (rest := []) ⟨hx, hb, hml, hown, hts⟩ (kfX7_isWord l dC dI a0 s36 tx_answer ur kr r_r H.size B o38 eo38) (cwV 1 hts gfX7_isName_0 rfl rfl rfl (by decide +kernel) ⟨(Nat.le_of_ble_eq_true rfl), (Nat.le_of_ble_eq_true rfl)⟩) (PVF (hP.sub (ws' := (bX7 a0 ur kr r_r [])) [0, 1, 2, 3] rfl) (hK.sub (tys' := (tX7 kr ([]))) [0, 1, 2] rfl) (hD.sub (ws' := (bX7 a0 ur kr r_r [])) [0, 1, 2, 3] (by decide) rfl) hN hS hB hE (S1c xs36 S1n) 0 rfl rfl) rfl rfl hl.1 rfl (lv_room (Nat.le_of_ble_eq_true rfl)) dX7_isName_38 ⟨(Nat.le_of_ble_eq_true rfl), (Nat.le_of_ble_eq_true rfl)⟩) hP hD hK hS hA [0, 1, 2, 3] [] rfl rfl (by decide) (by decide) (fun r38 _ H locs hw hP hD _ hS => ?_)
          obtain ⟨hw, br38⟩ := hw
          obtain rfl := hw.symm
          have hP : va_P (dC, dI) vwCl (bX7 a0 ur kr r_r []) H := hP
          have hD : va_D A (bX7 a0 ur kr r_r []) := hD
          refine lv_if_ne (tgt := 66) hx hb dX7_isName_41 (by decide) (fun c41 => ?_) (fun c41 => ?_)
          · have h := (if_neg c41).symm.trans h
            refine lv_iconst (v := 0) hx hb dX7_isName_66 (by decide) ?_
            obtain rfl := Option.some.inj h
            have hP9 := hP.sub (ws' := (bX7 a0 ur kr r_r [])) [0, 1, 2, 3] rfl
            have hD9 := hD.sub (ws' := (bX7 a0 ur kr r_r [])) [0, 1, 2, 3] (by decide) rfl
            have hK9 := hK.sub (tys' := []) [] rfl
            rw [hQQ]
            exact W.zret (v := (0 : Int32)) hx hb hr rfl (fun t ht hW => ⟨⟨(0 : Int32), (), rfl, ⟨rfl, (by decide)⟩, by rw [ht]; exact hP9, va_K.moved hW.alike hK9, hD9⟩, hS.F ht⟩) hS.2.2 dX7_isName_67
          · have h := (if_pos c41).symm.trans h
            refine lv_aload_n hx hb dX7_isName_44 rfl (lv_at hl 0 rfl) ?_
            obtain ⟨s45, hs45, xs45⟩ := hE.1 (RX7, 113, "dark", tx_dark) (List.mem_of_getElem? (i := 8) rfl)
            refine va_ldcS hx hb hown hs45 dX7_isName_45 ?_
            obtain ⟨o47, eo47, h⟩ := bd_of h
            refine cl_i (wc := (bX7 a0 ur kr r_r [])) (wr := []) (va_runV (As := [.ref s45]) (rest := []) ⟨hx, hb, hml, hown, hts⟩ (kfX7_isWord l dC dI a0 s45 tx_dark ur kr r_r H.size B o47 eo47) (cwV 1 hts gfX7_isName_0 rfl rfl rfl (by decide +kernel) ⟨(Nat.le_of_ble_eq_true rfl), (Nat.le_of_ble_eq_true rfl)⟩) (PVF (hP.sub (ws' := (bX7 a0 ur kr r_r [])) [0, 1, 2, 3] rfl) (hK.sub (tys' := (tX7 kr ([]))) [0, 1, 2] rfl) (hD.sub (ws' := (bX7 a0 ur kr r_r [])) [0, 1, 2, 3] (by decide) rfl) hN hS hB hE (S1c xs45 S1n) 0 rfl rfl) rfl rfl hl.1 rfl (lv_room (Nat.le_of_ble_eq_true rfl)) dX7_isName_47 ⟨(Nat.le_of_ble_eq_true rfl), (Nat.le_of_ble_eq_true rfl)⟩) hP hD hK hS hA [0, 1, 2, 3] [] rfl rfl (by decide) (by decide) (fun r47 _ H locs hw hP hD _ hS => ?_)
            obtain ⟨hw, br47⟩ := hw
            obtain rfl := hw.symm
            have hP : va_P (dC, dI) vwCl (bX7 a0 ur kr r_r []) H := hP
            have hD : va_D A (bX7 a0 ur kr r_r []) := hD
            refine lv_if_ne (tgt := 66) hx hb dX7_isName_50 (by decide) (fun c50 => ?_) (fun c50 => ?_)
            · have h := (if_neg c50).symm.trans h
              refine lv_iconst (v := 0) hx hb dX7_isName_66 (by decide) ?_
              obtain rfl := Option.some.inj h
              have hP9 := hP.sub (ws' := (bX7 a0 ur kr r_r [])) [0, 1, 2, 3] rfl
              have hD9 := hD.sub (ws' := (bX7 a0 ur kr r_r [])) [0, 1, 2, 3] (by decide) rfl
              have hK9 := hK.sub (tys' := []) [] rfl
              rw [hQQ]
              exact W.zret (v := (0 : Int32)) hx hb hr rfl (fun t ht hW => ⟨⟨(0 : Int32), (), rfl, ⟨rfl, (by decide)⟩, by rw [ht]; exact hP9, va_K.moved hW.alike hK9, hD9⟩, hS.F ht⟩) hS.2.2 dX7_isName_67
            · have h := (if_pos c50).symm.trans h
              refine lv_aload_n hx hb dX7_isName_53 rfl (lv_at hl 0 rfl) ?_
              obtain ⟨s54, hs54, xs54⟩ := hE.1 (RX7, 121, "bite", tx_bite) (List.mem_of_getElem? (i := 9) rfl)
              refine va_ldcS hx hb hown hs54 dX7_isName_54 ?_
              obtain ⟨o56, eo56, h⟩ := bd_of h
              refine cl_i (wc := (bX7 a0 ur kr r_r [])) (wr := []) (va_runV (As := [.ref s54]) (rest := []) ⟨hx, hb, hml, hown, hts⟩ (kfX7_isWord l dC dI a0 s54 tx_bite ur kr r_r H.size B o56 eo56) (cwV 1 hts gfX7_isName_0 rfl rfl rfl (by decide +kernel) ⟨(Nat.le_of_ble_eq_true rfl), (Nat.le_of_ble_eq_true rfl)⟩) (PVF (hP.sub (ws' := (bX7 a0 ur kr r_r [])) [0, 1, 2, 3] rfl) (hK.sub (tys' := (tX7 kr ([]))) [0, 1, 2] rfl) (hD.sub (ws' := (bX7 a0 ur kr r_r [])) [0, 1, 2, 3] (by decide) rfl) hN hS hB hE (S1c xs54 S1n) 0 rfl rfl) rfl rfl hl.1 rfl (lv_room (Nat.le_of_ble_eq_true rfl)) dX7_isName_56 ⟨(Nat.le_of_ble_eq_true rfl), (Nat.le_of_ble_eq_true rfl)⟩) hP hD hK hS hA [0, 1, 2, 3] [] rfl rfl (by decide) (by decide) (fun r56 _ H locs hw hP hD _ hS => ?_)
              obtain ⟨hw, br56⟩ := hw
              obtain rfl := hw.symm
              have hP : va_P (dC, dI) vwCl (bX7 a0 ur kr r_r []) H := hP
              have hD : va_D A (bX7 a0 ur kr r_r []) := hD
              refine lv_if_ne (tgt := 66) hx hb dX7_isName_59 (by decide) (fun c59 => ?_) (fun c59 => ?_)
              · have h := (if_neg c59).symm.trans h
                refine lv_iconst (v := 0) hx hb dX7_isName_66 (by decide) ?_
                obtain rfl := Option.some.inj h
                have hP9 := hP.sub (ws' := (bX7 a0 ur kr r_r [])) [0, 1, 2, 3] rfl
                have hD9 := hD.sub (ws' := (bX7 a0 ur kr r_r [])) [0, 1, 2, 3] (by decide) rfl
                have hK9 := hK.sub (tys' := []) [] rfl
                rw [hQQ]
                exact W.zret (v := (0 : Int32)) hx hb hr rfl (fun t ht hW => ⟨⟨(0 : Int32), (), rfl, ⟨rfl, (by decide)⟩, by rw [ht]; exact hP9, va_K.moved hW.alike hK9, hD9⟩, hS.F ht⟩) hS.2.2 dX7_isName_67
              · have h := (if_pos c59).symm.trans h
                refine lv_iconst (v := 1) hx hb dX7_isName_62 (by decide) ?_
                refine lv_goto (tgt := 67) hx hb dX7_isName_63 (by decide) ?_
                obtain rfl := Option.some.inj h
                have hP9 := hP.sub (ws' := (bX7 a0 ur kr r_r [])) [0, 1, 2, 3] rfl
                have hD9 := hD.sub (ws' := (bX7 a0 ur kr r_r [])) [0, 1, 2, 3] (by decide) rfl
                have hK9 := hK.sub (tys' := []) [] rfl
                rw [hQQ]
                exact W.zret (v := (1 : Int32)) hx hb hr rfl (fun t ht hW => ⟨⟨(1 : Int32), (), rfl, ⟨rfl, (by decide)⟩, by rw [ht]; exact hP9, va_K.moved hW.alike hK9, hD9⟩, hS.F ht⟩) hS.2.2 dX7_isName_67
theorem dX7_takeKind_0 : decode cX7_takeKind 0 = .ok (.aload_n 0, 1) := by decide +kernel
theorem dX7_takeKind_1 : decode cX7_takeKind 1 = .ok (.ldc 208, 2) := by decide +kernel
theorem dX7_takeKind_10 : decode cX7_takeKind 10 = .ok (.iconst 0, 1) := by decide +kernel
theorem dX7_takeKind_11 : decode cX7_takeKind 11 = .ok (.putfield 31, 3) := by decide +kernel
theorem dX7_takeKind_14 : decode cX7_takeKind 14 = .ok (.goto 60, 3) := by decide +kernel
theorem dX7_takeKind_17 : decode cX7_takeKind 17 = .ok (.aload_n 0, 1) := by decide +kernel
theorem dX7_takeKind_18 : decode cX7_takeKind 18 = .ok (.ldc 210, 2) := by decide +kernel
theorem dX7_takeKind_20 : decode cX7_takeKind 20 = .ok (.invokevirtual 78, 3) := by decide +kernel
theorem dX7_takeKind_23 : decode cX7_takeKind 23 = .ok (.ifCond .eq 11, 3) := by decide +kernel
theorem dX7_takeKind_26 : decode cX7_takeKind 26 = .ok (.aload_n 0, 1) := by decide +kernel
theorem dX7_takeKind_27 : decode cX7_takeKind 27 = .ok (.iconst 1, 1) := by decide +kernel
theorem dX7_takeKind_28 : decode cX7_takeKind 28 = .ok (.putfield 31, 3) := by decide +kernel
theorem dX7_takeKind_3 : decode cX7_takeKind 3 = .ok (.invokevirtual 78, 3) := by decide +kernel
theorem dX7_takeKind_31 : decode cX7_takeKind 31 = .ok (.goto 43, 3) := by decide +kernel
theorem dX7_takeKind_34 : decode cX7_takeKind 34 = .ok (.aload_n 0, 1) := by decide +kernel
theorem dX7_takeKind_35 : decode cX7_takeKind 35 = .ok (.ldc 212, 2) := by decide +kernel
theorem dX7_takeKind_37 : decode cX7_takeKind 37 = .ok (.invokevirtual 78, 3) := by decide +kernel
theorem dX7_takeKind_40 : decode cX7_takeKind 40 = .ok (.ifCond .eq 11, 3) := by decide +kernel
theorem dX7_takeKind_43 : decode cX7_takeKind 43 = .ok (.aload_n 0, 1) := by decide +kernel
theorem dX7_takeKind_44 : decode cX7_takeKind 44 = .ok (.iconst 2, 1) := by decide +kernel
theorem dX7_takeKind_45 : decode cX7_takeKind 45 = .ok (.putfield 31, 3) := by decide +kernel
theorem dX7_takeKind_48 : decode cX7_takeKind 48 = .ok (.goto 26, 3) := by decide +kernel
theorem dX7_takeKind_51 : decode cX7_takeKind 51 = .ok (.aload_n 0, 1) := by decide +kernel
theorem dX7_takeKind_52 : decode cX7_takeKind 52 = .ok (.ldc 214, 2) := by decide +kernel
theorem dX7_takeKind_54 : decode cX7_takeKind 54 = .ok (.invokevirtual 78, 3) := by decide +kernel
theorem dX7_takeKind_57 : decode cX7_takeKind 57 = .ok (.ifCond .eq 11, 3) := by decide +kernel
theorem dX7_takeKind_6 : decode cX7_takeKind 6 = .ok (.ifCond .eq 11, 3) := by decide +kernel
theorem dX7_takeKind_60 : decode cX7_takeKind 60 = .ok (.aload_n 0, 1) := by decide +kernel
theorem dX7_takeKind_61 : decode cX7_takeKind 61 = .ok (.iconst 3, 1) := by decide +kernel
theorem dX7_takeKind_62 : decode cX7_takeKind 62 = .ok (.putfield 31, 3) := by decide +kernel
theorem dX7_takeKind_65 : decode cX7_takeKind 65 = .ok (.goto 9, 3) := by decide +kernel
theorem dX7_takeKind_68 : decode cX7_takeKind 68 = .ok (.aload_n 0, 1) := by decide +kernel
theorem dX7_takeKind_69 : decode cX7_takeKind 69 = .ok (.iconst 1, 1) := by decide +kernel
theorem dX7_takeKind_70 : decode cX7_takeKind 70 = .ok (.invokevirtual 72, 3) := by decide +kernel
theorem dX7_takeKind_73 : decode cX7_takeKind 73 = .ok (.ireturn, 1) := by decide +kernel
theorem dX7_takeKind_74 : decode cX7_takeKind 74 = .ok (.aload_n 0, 1) := by decide +kernel
theorem dX7_takeKind_75 : decode cX7_takeKind 75 = .ok (.invokevirtual 62, 3) := by decide +kernel
theorem dX7_takeKind_78 : decode cX7_takeKind 78 = .ok (.iconst 1, 1) := by decide +kernel
theorem dX7_takeKind_79 : decode cX7_takeKind 79 = .ok (.ireturn, 1) := by decide +kernel
theorem dX7_takeKind_9 : decode cX7_takeKind 9 = .ok (.aload_n 0, 1) := by decide +kernel
def vfX7_takeKind : List Cond := List.cons (.code yX7_takeKind cX7_takeKind 1 (some .boolean)) (apW [.methodLink RX7 78 yX7_isWord, .instanceMethod yX7_isWord, .selects RX7 yX7_isWord yX7_isWord, .initialized RX7, .methodLink RX7 62 yX7_advance, .instanceMethod yX7_advance, .selects RX7 yX7_advance yX7_advance, .methodLink RX7 72 yX7_fail, .instanceMethod yX7_fail, .selects RX7 yX7_fail yX7_fail, .fieldLink RX7 31 "HookPier$Reader" "value" "I"] (apW wsX70 (apW vfX7_isWord (apW vfX7_advance (vfX7_fail)))))
theorem ifX7_takeKind_X7 : ∀ w ∈ wsX70, w ∈ vfX7_takeKind := fun _ h => (List.mem_cons_of_mem _ (List.mem_append_right _ (List.mem_append_left _ h)))
theorem qfX7_takeKind : Good vfX7_takeKind := gd_cons (by decide +kernel) (gd_app (gd_dec (by decide +kernel) : Good [.methodLink RX7 78 yX7_isWord, .instanceMethod yX7_isWord, .selects RX7 yX7_isWord yX7_isWord, .initialized RX7, .methodLink RX7 62 yX7_advance, .instanceMethod yX7_advance, .selects RX7 yX7_advance yX7_advance, .methodLink RX7 72 yX7_fail, .instanceMethod yX7_fail, .selects RX7 yX7_fail yX7_fail, .fieldLink RX7 31 "HookPier$Reader" "value" "I"]) (gd_app qsX7 (gd_app qfX7_isWord (gd_app qfX7_advance qfX7_fail))))
theorem gfX7_takeKind_0 : GoodIn vfX7_takeKind (wsV RX7 78 RX7 yX7_isWord vfX7_isWord) := goodIn_app (goodIn_r [.methodLink RX7 78 yX7_isWord, .instanceMethod yX7_isWord, .selects RX7 yX7_isWord yX7_isWord, .initialized RX7] [1, 2, 3, 4] rfl (by decide +kernel)) (goodIn_m (fun _ h => (List.mem_cons_of_mem _ (List.mem_append_right _ (List.mem_append_right _ (List.mem_append_left _ h))))) qfX7_isWord)
theorem gfX7_takeKind_1 : GoodIn vfX7_takeKind (wsV RX7 62 RX7 yX7_advance vfX7_advance) := goodIn_app (goodIn_r [.methodLink RX7 62 yX7_advance, .instanceMethod yX7_advance, .selects RX7 yX7_advance yX7_advance, .initialized RX7] [5, 6, 7, 4] rfl (by decide +kernel)) (goodIn_m (fun _ h => (List.mem_cons_of_mem _ (List.mem_append_right _ (List.mem_append_right _ (List.mem_append_right _ (List.mem_append_left _ h)))))) qfX7_advance)
theorem gfX7_takeKind_2 : GoodIn vfX7_takeKind (wsV RX7 72 RX7 yX7_fail vfX7_fail) := goodIn_app (goodIn_r [.methodLink RX7 72 yX7_fail, .instanceMethod yX7_fail, .selects RX7 yX7_fail yX7_fail, .initialized RX7] [8, 9, 10, 4] rfl (by decide +kernel)) (goodIn_m (fun _ h => (List.mem_cons_of_mem _ (List.mem_append_right _ (List.mem_append_right _ (List.mem_append_right _ (List.mem_append_right _ h)))))) qfX7_fail)
set_option maxHeartbeats 2000000 in
set_option maxRecDepth 100000 in
theorem kfX7_takeKind (l : Launch) (dC : Nat → ClassId) (dI : Nat → Nat → Nat) (a0 : Nat) (ur : Nat → Nat) (kr : Nat → ClassId) (r_r : TX7_r) (sz : Nat) (B : Nat) (out : (Int32 × TX7_r)) (h : f_X7_takeKind r_r = some out) : Met l yX7_takeKind vfX7_takeKind ({ frames := 5, cells := 0, slots := 0, locals := 107 }) (PF (dC, dI) B [.ref a0] sz (bX7 a0 ur kr r_r []) (tX7 kr ([])) []) (va_Qi (S := Unit) (fun (r : Int32) _ => r = out.1 ∧ (0 ≤ r.toInt ∧ r.toInt ≤ 1)) (fun _ t => BC (dC, dI) (va_A (bX7 a0 ur kr r_r []) sz) (bX7 a0 ur kr out.2 []) [] t) (va_A (bX7 a0 ur kr r_r []) sz)) 0 0 (va_A (bX7 a0 ur kr r_r []) sz) := by
  refine Met.ofW (cc := cX7_takeKind) (maxL := 1) (ret := (some .boolean)) (by decide) rfl ?_
  intro p e s m args below meth c s₁ B0 hml hv
  obtain ⟨rfl, hsz, hP, hK, hD0, hN, hBs, hE, hX⟩ := hv
  have hBA := PF_reg hD0 hBs
  have hx := B0.exec
  have hb := B0.bytes
  have hr := B0.returns
  have hts := atoms_spec (ws := vfX7_takeKind) B0.pre
  have hown : s.vm.findClass RX7 = some m.cls := findClass_of_methodNamed B0.named
  have hlocks := B0.notSynchronized
  subst hsz
  have hD := hD0.self (sz := s.heap.size)
  generalize hAe : va_A (bX7 a0 ur kr r_r []) s.heap.size = A at hD hBA ⊢
  have hA : ∀ q : Nat, s.heap.size ≤ q → A q := fun q h => by rw [← hAe]; exact Or.inr h
  have hS : va_S A s.heap s.heap [] := va_S.rf
  have hP : va_P (dC, dI) vwCl (bX7 a0 ur kr r_r []) s.heap := hP
  have hl := lv_entry ([.ref a0]) (n := 1) (Nat.le_of_ble_eq_true rfl)
  rw [lg_entry_eq]
  generalize (lg_sl ([.ref a0]) ++ List.replicate (1 - (lg_sl ([.ref a0])).length) Slot.unset).toArray = ls at hl ⊢
  have hl : lv_has ls 1 [(0, .ref a0)] := hl
  have hB : RB B s A := ⟨hBA, hBs⟩
  refine W_q (fun QQ hQQ => ?_)
  rw [f_X7_takeKind] at h
  refine lv_aload_n hx hb dX7_takeKind_0 rfl (lv_at hl 0 rfl) ?_
  obtain ⟨s1, hs1, xs1⟩ := hE.1 (RX7, 208, "plain", tx_plain) (List.mem_of_getElem? (i := 11) rfl)
  refine va_ldcS hx hb hown hs1 dX7_takeKind_1 ?_
  obtain ⟨o3, eo3, h⟩ := bd_of h
  refine cl_i (wc := (bX7 a0 ur kr r_r [])) (wr := []) (va_runV (As := [.ref s1]) (rest := []) ⟨hx, hb, hml, hown, hts⟩ (kfX7_isWord l dC dI a0 s1 tx_plain ur kr r_r s.heap.size B o3 eo3) (cwV 1 hts gfX7_takeKind_0 rfl rfl rfl (by decide +kernel) ⟨(Nat.le_of_ble_eq_true rfl), (Nat.le_of_ble_eq_true rfl)⟩) (PVF (hP.sub (ws' := (bX7 a0 ur kr r_r [])) [0, 1, 2, 3] rfl) (hK.sub (tys' := (tX7 kr ([]))) [0, 1, 2] rfl) (hD.sub (ws' := (bX7 a0 ur kr r_r [])) [0, 1, 2, 3] (by decide) rfl) hN hS hB hE (S1c xs1 S1n) 0 rfl rfl) rfl rfl hl.1 rfl (lv_room (Nat.le_of_ble_eq_true rfl)) dX7_takeKind_3 ⟨(Nat.le_of_ble_eq_true rfl), (Nat.le_of_ble_eq_true rfl)⟩) hP hD hK hS hA [0, 1, 2, 3] [] rfl rfl (by decide) (by decide) (fun r3 _ H locs hw hP hD _ hS => ?_)
  obtain ⟨hw, br3⟩ := hw
  obtain rfl := hw.symm
  have hP : va_P (dC, dI) vwCl (bX7 a0 ur kr r_r []) H := hP
  have hD : va_D A (bX7 a0 ur kr r_r []) := hD
  have J74 : ∀ (v74_r_r : TX7_r) (H : Heap) (locs : List Loc) (ls : Array Slot), f_X7_takeKind_J74 v74_r_r = some out → va_P (dC, dI) vwCl (bX7 a0 ur kr v74_r_r []) H → va_D A (bX7 a0 ur kr v74_r_r []) → va_S A s.heap H locs → lv_has ls 1 [(0, .ref a0)] → W p l e (headSpec vfX7_takeKind { frames := 5, cells := 0, slots := 0, locals := 107 }).room s m ([.ref a0]).toArray below meth c H locs 0 0 QQ (F0 m 74 ls []) := by
    intro v74_r_r H locs ls h  hP hD hS hl
    rw [f_X7_takeKind_J74] at h
    refine lv_aload_n hx hb dX7_takeKind_74 rfl (lv_at hl 0 rfl) ?_
    obtain ⟨o75, eo75, h⟩ := bd_of h
    refine cl_v (wc := (bX7 a0 ur kr v74_r_r [])) (wr := []) (va_runV (As := []) (rest := []) ⟨hx, hb, hml, hown, hts⟩ (kfX7_advance l dC dI a0 ur kr v74_r_r H.size o75 eo75) (cwV 0 hts gfX7_takeKind_1 rfl rfl rfl (by decide +kernel) ⟨(Nat.le_of_ble_eq_true rfl), (Nat.le_of_ble_eq_true rfl)⟩) (PV (hP.sub (ws' := (bX7 a0 ur kr v74_r_r [])) [0, 1, 2, 3] rfl) (hK.sub (tys' := (tX7 kr ([]))) [0, 1, 2] rfl) (hD.sub (ws' := (bX7 a0 ur kr v74_r_r [])) [0, 1, 2, 3] (by decide) rfl) hN 0 rfl rfl) rfl rfl hl.1 rfl (lv_room (Nat.le_of_ble_eq_true rfl)) dX7_takeKind_75 ⟨(Nat.le_of_ble_eq_true rfl), (Nat.le_of_ble_eq_true rfl)⟩) hP hD hK hS hA [0, 1, 2, 3] [] rfl rfl (by decide) (by decide) (fun _ H locs hw hP hD _ hS => ?_)
    have hP : va_P (dC, dI) vwCl (bX7 a0 ur kr o75 []) H := hP
    have hD : va_D A (bX7 a0 ur kr o75 []) := hD
    refine lv_iconst (v := 1) hx hb dX7_takeKind_78 (by decide) ?_
    obtain rfl := Option.some.inj h
    have hP9 := hP.sub (ws' := (bX7 a0 ur kr o75 [])) [0, 1, 2, 3] rfl
    have hD9 := hD.sub (ws' := (bX7 a0 ur kr o75 [])) [0, 1, 2, 3] (by decide) rfl
    have hK9 := hK.sub (tys' := []) [] rfl
    rw [hQQ]
    exact W.zret (v := (1 : Int32)) hx hb hr rfl (fun t ht hW => ⟨⟨(1 : Int32), (), rfl, ⟨rfl, (by decide)⟩, by rw [ht]; exact hP9, va_K.moved hW.alike hK9, hD9⟩, hS.F ht⟩) hS.2.2 dX7_takeKind_79
  refine lv_if_eq (tgt := 17) hx hb dX7_takeKind_6 (by decide) (fun c6 => ?_) (fun c6 => ?_)
  · have h := (if_pos c6).symm.trans h
    refine lv_aload_n hx hb dX7_takeKind_17 rfl (lv_at hl 0 rfl) ?_
    obtain ⟨s18, hs18, xs18⟩ := hE.1 (RX7, 210, "cold", tx_cold) (List.mem_of_getElem? (i := 12) rfl)
    refine va_ldcS hx hb hown hs18 dX7_takeKind_18 ?_
    obtain ⟨o20, eo20, h⟩ := bd_of h
    refine cl_i (wc := (bX7 a0 ur kr r_r [])) (wr := []) (va_runV (As := [.ref s18]) (rest := []) ⟨hx, hb, hml, hown, hts⟩ (kfX7_isWord l dC dI a0 s18 tx_cold ur kr r_r H.size B o20 eo20) (cwV 1 hts gfX7_takeKind_0 rfl rfl rfl (by decide +kernel) ⟨(Nat.le_of_ble_eq_true rfl), (Nat.le_of_ble_eq_true rfl)⟩) (PVF (hP.sub (ws' := (bX7 a0 ur kr r_r [])) [0, 1, 2, 3] rfl) (hK.sub (tys' := (tX7 kr ([]))) [0, 1, 2] rfl) (hD.sub (ws' := (bX7 a0 ur kr r_r [])) [0, 1, 2, 3] (by decide) rfl) hN hS hB hE (S1c xs18 S1n) 0 rfl rfl) rfl rfl hl.1 rfl (lv_room (Nat.le_of_ble_eq_true rfl)) dX7_takeKind_20 ⟨(Nat.le_of_ble_eq_true rfl), (Nat.le_of_ble_eq_true rfl)⟩) hP hD hK hS hA [0, 1, 2, 3] [] rfl rfl (by decide) (by decide) (fun r20 _ H locs hw hP hD _ hS => ?_)
    obtain ⟨hw, br20⟩ := hw
    obtain rfl := hw.symm
    have hP : va_P (dC, dI) vwCl (bX7 a0 ur kr r_r []) H := hP
    have hD : va_D A (bX7 a0 ur kr r_r []) := hD
    refine lv_if_eq (tgt := 34) hx hb dX7_takeKind_23 (by decide) (fun c23 => ?_) (fun c23 => ?_)
    · have h := (if_pos c23).symm.trans h
      refine lv_aload_n hx hb dX7_takeKind_34 rfl (lv_at hl 0 rfl) ?_
      obtain ⟨s35, hs35, xs35⟩ := hE.1 (RX7, 212, "crab", tx_crab) (List.mem_of_getElem? (i := 13) rfl)
      refine va_ldcS hx hb hown hs35 dX7_takeKind_35 ?_
      obtain ⟨o37, eo37, h⟩ := bd_of h
      refine cl_i (wc := (bX7 a0 ur kr r_r [])) (wr := []) (va_runV (As := [.ref s35]) (rest := []) ⟨hx, hb, hml, hown, hts⟩ (kfX7_isWord l dC dI a0 s35 tx_crab ur kr r_r H.size B o37 eo37) (cwV 1 hts gfX7_takeKind_0 rfl rfl rfl (by decide +kernel) ⟨(Nat.le_of_ble_eq_true rfl), (Nat.le_of_ble_eq_true rfl)⟩) (PVF (hP.sub (ws' := (bX7 a0 ur kr r_r [])) [0, 1, 2, 3] rfl) (hK.sub (tys' := (tX7 kr ([]))) [0, 1, 2] rfl) (hD.sub (ws' := (bX7 a0 ur kr r_r [])) [0, 1, 2, 3] (by decide) rfl) hN hS hB hE (S1c xs35 S1n) 0 rfl rfl) rfl rfl hl.1 rfl (lv_room (Nat.le_of_ble_eq_true rfl)) dX7_takeKind_37 ⟨(Nat.le_of_ble_eq_true rfl), (Nat.le_of_ble_eq_true rfl)⟩) hP hD hK hS hA [0, 1, 2, 3] [] rfl rfl (by decide) (by decide) (fun r37 _ H locs hw hP hD _ hS => ?_)
      obtain ⟨hw, br37⟩ := hw
      obtain rfl := hw.symm
      have hP : va_P (dC, dI) vwCl (bX7 a0 ur kr r_r []) H := hP
      have hD : va_D A (bX7 a0 ur kr r_r []) := hD
      refine lv_if_eq (tgt := 51) hx hb dX7_takeKind_40 (by decide) (fun c40 => ?_) (fun c40 => ?_)
      · have h := (if_pos c40).symm.trans h
        refine lv_aload_n hx hb dX7_takeKind_51 rfl (lv_at hl 0 rfl) ?_
        obtain ⟨s52, hs52, xs52⟩ := hE.1 (RX7, 214, "boot", tx_boot) (List.mem_of_getElem? (i := 14) rfl)
        refine va_ldcS hx hb hown hs52 dX7_takeKind_52 ?_
        obtain ⟨o54, eo54, h⟩ := bd_of h
        refine cl_i (wc := (bX7 a0 ur kr r_r [])) (wr := []) (va_runV (As := [.ref s52]) (rest := []) ⟨hx, hb, hml, hown, hts⟩ (kfX7_isWord l dC dI a0 s52 tx_boot ur kr r_r H.size B o54 eo54) (cwV 1 hts gfX7_takeKind_0 rfl rfl rfl (by decide +kernel) ⟨(Nat.le_of_ble_eq_true rfl), (Nat.le_of_ble_eq_true rfl)⟩) (PVF (hP.sub (ws' := (bX7 a0 ur kr r_r [])) [0, 1, 2, 3] rfl) (hK.sub (tys' := (tX7 kr ([]))) [0, 1, 2] rfl) (hD.sub (ws' := (bX7 a0 ur kr r_r [])) [0, 1, 2, 3] (by decide) rfl) hN hS hB hE (S1c xs52 S1n) 0 rfl rfl) rfl rfl hl.1 rfl (lv_room (Nat.le_of_ble_eq_true rfl)) dX7_takeKind_54 ⟨(Nat.le_of_ble_eq_true rfl), (Nat.le_of_ble_eq_true rfl)⟩) hP hD hK hS hA [0, 1, 2, 3] [] rfl rfl (by decide) (by decide) (fun r54 _ H locs hw hP hD _ hS => ?_)
        obtain ⟨hw, br54⟩ := hw
        obtain rfl := hw.symm
        have hP : va_P (dC, dI) vwCl (bX7 a0 ur kr r_r []) H := hP
        have hD : va_D A (bX7 a0 ur kr r_r []) := hD
        refine lv_if_eq (tgt := 68) hx hb dX7_takeKind_57 (by decide) (fun c57 => ?_) (fun c57 => ?_)
        · have h := (if_pos c57).symm.trans h
          refine lv_aload_n hx hb dX7_takeKind_68 rfl (lv_at hl 0 rfl) ?_
          refine lv_iconst (v := 1) hx hb dX7_takeKind_69 (by decide) ?_
          obtain ⟨o70, eo70⟩ : ∃ o, o = f_X7_fail (1 : Int32) r_r := ⟨_, rfl⟩
          have h := nm_of h o70 eo70
          refine cl_i (wc := (bX7 a0 ur kr r_r [])) (wr := []) (va_runV (As := [.int 1]) (rest := []) ⟨hx, hb, hml, hown, hts⟩ (kfX7_fail l dC dI a0 (1 : Int32) ur kr r_r H.size o70 eo70.symm) (cwV 1 hts gfX7_takeKind_2 rfl rfl rfl (by decide +kernel) ⟨(Nat.le_of_ble_eq_true rfl), (Nat.le_of_ble_eq_true rfl)⟩) (PV (hP.sub (ws' := (bX7 a0 ur kr r_r [])) [0, 1, 2, 3] rfl) (hK.sub (tys' := (tX7 kr ([]))) [0, 1, 2] rfl) (hD.sub (ws' := (bX7 a0 ur kr r_r [])) [0, 1, 2, 3] (by decide) rfl) hN 0 rfl rfl) rfl rfl hl.1 rfl (lv_room (Nat.le_of_ble_eq_true rfl)) dX7_takeKind_70 ⟨(Nat.le_of_ble_eq_true rfl), (Nat.le_of_ble_eq_true rfl)⟩) hP hD hK hS hA [0, 1, 2, 3] [] rfl rfl (by decide) (by decide) (fun r70 _ H locs hw hP hD _ hS => ?_)
          obtain ⟨hw, br70⟩ := hw
          obtain rfl := hw
          have hP : va_P (dC, dI) vwCl (bX7 a0 ur kr o70 []) H := hP
          have hD : va_D A (bX7 a0 ur kr o70 []) := hD
          obtain rfl := Option.some.inj h
          have hP9 := hP.sub (ws' := (bX7 a0 ur kr o70 [])) [0, 1, 2, 3] rfl
          have hD9 := hD.sub (ws' := (bX7 a0 ur kr o70 [])) [0, 1, 2, 3] (by decide) rfl
          have hK9 := hK.sub (tys' := []) [] rfl
          rw [hQQ]
          exact W.zret (v := (0 : Int32)) hx hb hr rfl (fun t ht hW => ⟨⟨(0 : Int32), (), rfl, ⟨rfl, (by decide)⟩, by rw [ht]; exact hP9, va_K.moved hW.alike hK9, hD9⟩, hS.F ht⟩) hS.2.2 dX7_takeKind_73
        · have h := (if_neg c57).symm.trans h
          refine lv_aload_n hx hb dX7_takeKind_60 rfl (lv_at hl 0 rfl) ?_
          refine lv_iconst (v := 3) hx hb dX7_takeKind_61 (by decide) ?_
          refine va_put (D := (dC, dI)) (ci := 5) (v := .int 3) (ty := .int) (C := RX7) (T := TX7) (N := 12) hx hb hts ifX7_takeKind_X7 tyX7 tyX7_ok nmX7 hown hK hP hD hS 0 rfl rfl 6 (by decide) (hts (.fieldLink RX7 31 "HookPier$Reader" "value" "I") (List.mem_of_getElem? (i := 11) rfl)) (fun _ h9 => h9) rfl (by decide +kernel) rfl rfl (Nat.le_of_ble_eq_true rfl) dX7_takeKind_62 (fun H locs hP hD hS => ?_)
          have hP : va_P (dC, dI) vwCl (bX7 a0 ur kr (r_r.1, r_r.2.1, r_r.2.2.1, r_r.2.2.2.1, r_r.2.2.2.2.1, r_r.2.2.2.2.2.1, (3 : Int32), r_r.2.2.2.2.2.2.2) []) H := hP
          have hD : va_D A (bX7 a0 ur kr (r_r.1, r_r.2.1, r_r.2.2.1, r_r.2.2.2.1, r_r.2.2.2.2.1, r_r.2.2.2.2.2.1, (3 : Int32), r_r.2.2.2.2.2.2.2) []) := hD
          refine lv_goto (tgt := 74) hx hb dX7_takeKind_65 (by decide) ?_
          exact J74 (r_r.1, r_r.2.1, r_r.2.2.1, r_r.2.2.2.1, r_r.2.2.2.2.1, r_r.2.2.2.2.2.1, (3 : Int32), r_r.2.2.2.2.2.2.2) H _ ls h  hP hD hS (lv_sub hl [0] rfl)
      · have h := (if_neg c40).symm.trans h
        refine lv_aload_n hx hb dX7_takeKind_43 rfl (lv_at hl 0 rfl) ?_
        refine lv_iconst (v := 2) hx hb dX7_takeKind_44 (by decide) ?_
        refine va_put (D := (dC, dI)) (ci := 5) (v := .int 2) (ty := .int) (C := RX7) (T := TX7) (N := 12) hx hb hts ifX7_takeKind_X7 tyX7 tyX7_ok nmX7 hown hK hP hD hS 0 rfl rfl 6 (by decide) (hts (.fieldLink RX7 31 "HookPier$Reader" "value" "I") (List.mem_of_getElem? (i := 11) rfl)) (fun _ h9 => h9) rfl (by decide +kernel) rfl rfl (Nat.le_of_ble_eq_true rfl) dX7_takeKind_45 (fun H locs hP hD hS => ?_)
        have hP : va_P (dC, dI) vwCl (bX7 a0 ur kr (r_r.1, r_r.2.1, r_r.2.2.1, r_r.2.2.2.1, r_r.2.2.2.2.1, r_r.2.2.2.2.2.1, (2 : Int32), r_r.2.2.2.2.2.2.2) []) H := hP
        have hD : va_D A (bX7 a0 ur kr (r_r.1, r_r.2.1, r_r.2.2.1, r_r.2.2.2.1, r_r.2.2.2.2.1, r_r.2.2.2.2.2.1, (2 : Int32), r_r.2.2.2.2.2.2.2) []) := hD
        refine lv_goto (tgt := 74) hx hb dX7_takeKind_48 (by decide) ?_
        exact J74 (r_r.1, r_r.2.1, r_r.2.2.1, r_r.2.2.2.1, r_r.2.2.2.2.1, r_r.2.2.2.2.2.1, (2 : Int32), r_r.2.2.2.2.2.2.2) H _ ls h  hP hD hS (lv_sub hl [0] rfl)
    · have h := (if_neg c23).symm.trans h
      refine lv_aload_n hx hb dX7_takeKind_26 rfl (lv_at hl 0 rfl) ?_
      refine lv_iconst (v := 1) hx hb dX7_takeKind_27 (by decide) ?_
      refine va_put (D := (dC, dI)) (ci := 5) (v := .int 1) (ty := .int) (C := RX7) (T := TX7) (N := 12) hx hb hts ifX7_takeKind_X7 tyX7 tyX7_ok nmX7 hown hK hP hD hS 0 rfl rfl 6 (by decide) (hts (.fieldLink RX7 31 "HookPier$Reader" "value" "I") (List.mem_of_getElem? (i := 11) rfl)) (fun _ h9 => h9) rfl (by decide +kernel) rfl rfl (Nat.le_of_ble_eq_true rfl) dX7_takeKind_28 (fun H locs hP hD hS => ?_)
      have hP : va_P (dC, dI) vwCl (bX7 a0 ur kr (r_r.1, r_r.2.1, r_r.2.2.1, r_r.2.2.2.1, r_r.2.2.2.2.1, r_r.2.2.2.2.2.1, (1 : Int32), r_r.2.2.2.2.2.2.2) []) H := hP
      have hD : va_D A (bX7 a0 ur kr (r_r.1, r_r.2.1, r_r.2.2.1, r_r.2.2.2.1, r_r.2.2.2.2.1, r_r.2.2.2.2.2.1, (1 : Int32), r_r.2.2.2.2.2.2.2) []) := hD
      refine lv_goto (tgt := 74) hx hb dX7_takeKind_31 (by decide) ?_
      exact J74 (r_r.1, r_r.2.1, r_r.2.2.1, r_r.2.2.2.1, r_r.2.2.2.2.1, r_r.2.2.2.2.2.1, (1 : Int32), r_r.2.2.2.2.2.2.2) H _ ls h  hP hD hS (lv_sub hl [0] rfl)
  · have h := (if_neg c6).symm.trans h
    refine lv_aload_n hx hb dX7_takeKind_9 rfl (lv_at hl 0 rfl) ?_
    refine lv_iconst (v := 0) hx hb dX7_takeKind_10 (by decide) ?_
    refine va_put (D := (dC, dI)) (ci := 5) (v := .int 0) (ty := .int) (C := RX7) (T := TX7) (N := 12) hx hb hts ifX7_takeKind_X7 tyX7 tyX7_ok nmX7 hown hK hP hD hS 0 rfl rfl 6 (by decide) (hts (.fieldLink RX7 31 "HookPier$Reader" "value" "I") (List.mem_of_getElem? (i := 11) rfl)) (fun _ h9 => h9) rfl (by decide +kernel) rfl rfl (Nat.le_of_ble_eq_true rfl) dX7_takeKind_11 (fun H locs hP hD hS => ?_)
    have hP : va_P (dC, dI) vwCl (bX7 a0 ur kr (r_r.1, r_r.2.1, r_r.2.2.1, r_r.2.2.2.1, r_r.2.2.2.2.1, r_r.2.2.2.2.2.1, (0 : Int32), r_r.2.2.2.2.2.2.2) []) H := hP
    have hD : va_D A (bX7 a0 ur kr (r_r.1, r_r.2.1, r_r.2.2.1, r_r.2.2.2.1, r_r.2.2.2.2.1, r_r.2.2.2.2.2.1, (0 : Int32), r_r.2.2.2.2.2.2.2) []) := hD
    refine lv_goto (tgt := 74) hx hb dX7_takeKind_14 (by decide) ?_
    exact J74 (r_r.1, r_r.2.1, r_r.2.2.1, r_r.2.2.2.1, r_r.2.2.2.2.1, r_r.2.2.2.2.2.1, (0 : Int32), r_r.2.2.2.2.2.2.2) H _ ls h  hP hD hS (lv_sub hl [0] rfl)
theorem dX7_takeYes_0 : decode cX7_takeYes 0 = .ok (.aload_n 0, 1) := by decide +kernel
theorem dX7_takeYes_1 : decode cX7_takeYes 1 = .ok (.ldc 216, 2) := by decide +kernel
theorem dX7_takeYes_10 : decode cX7_takeYes 10 = .ok (.ldc 218, 2) := by decide +kernel
theorem dX7_takeYes_12 : decode cX7_takeYes 12 = .ok (.invokevirtual 78, 3) := by decide +kernel
theorem dX7_takeYes_15 : decode cX7_takeYes 15 = .ok (.ifCond .ne 9, 3) := by decide +kernel
theorem dX7_takeYes_18 : decode cX7_takeYes 18 = .ok (.aload_n 0, 1) := by decide +kernel
theorem dX7_takeYes_19 : decode cX7_takeYes 19 = .ok (.iconst 1, 1) := by decide +kernel
theorem dX7_takeYes_20 : decode cX7_takeYes 20 = .ok (.invokevirtual 72, 3) := by decide +kernel
theorem dX7_takeYes_23 : decode cX7_takeYes 23 = .ok (.ireturn, 1) := by decide +kernel
theorem dX7_takeYes_24 : decode cX7_takeYes 24 = .ok (.aload_n 0, 1) := by decide +kernel
theorem dX7_takeYes_25 : decode cX7_takeYes 25 = .ok (.aload_n 0, 1) := by decide +kernel
theorem dX7_takeYes_26 : decode cX7_takeYes 26 = .ok (.ldc 216, 2) := by decide +kernel
theorem dX7_takeYes_28 : decode cX7_takeYes 28 = .ok (.invokevirtual 78, 3) := by decide +kernel
theorem dX7_takeYes_3 : decode cX7_takeYes 3 = .ok (.invokevirtual 78, 3) := by decide +kernel
theorem dX7_takeYes_31 : decode cX7_takeYes 31 = .ok (.ifCond .eq 7, 3) := by decide +kernel
theorem dX7_takeYes_34 : decode cX7_takeYes 34 = .ok (.iconst 1, 1) := by decide +kernel
theorem dX7_takeYes_35 : decode cX7_takeYes 35 = .ok (.goto 4, 3) := by decide +kernel
theorem dX7_takeYes_38 : decode cX7_takeYes 38 = .ok (.iconst 0, 1) := by decide +kernel
theorem dX7_takeYes_39 : decode cX7_takeYes 39 = .ok (.putfield 31, 3) := by decide +kernel
theorem dX7_takeYes_42 : decode cX7_takeYes 42 = .ok (.aload_n 0, 1) := by decide +kernel
theorem dX7_takeYes_43 : decode cX7_takeYes 43 = .ok (.invokevirtual 62, 3) := by decide +kernel
theorem dX7_takeYes_46 : decode cX7_takeYes 46 = .ok (.iconst 1, 1) := by decide +kernel
theorem dX7_takeYes_47 : decode cX7_takeYes 47 = .ok (.ireturn, 1) := by decide +kernel
theorem dX7_takeYes_6 : decode cX7_takeYes 6 = .ok (.ifCond .ne 18, 3) := by decide +kernel
theorem dX7_takeYes_9 : decode cX7_takeYes 9 = .ok (.aload_n 0, 1) := by decide +kernel
def vfX7_takeYes : List Cond := List.cons (.code yX7_takeYes cX7_takeYes 1 (some .boolean)) (apW [.methodLink RX7 78 yX7_isWord, .instanceMethod yX7_isWord, .selects RX7 yX7_isWord yX7_isWord, .initialized RX7, .fieldLink RX7 31 "HookPier$Reader" "value" "I", .methodLink RX7 62 yX7_advance, .instanceMethod yX7_advance, .selects RX7 yX7_advance yX7_advance, .methodLink RX7 72 yX7_fail, .instanceMethod yX7_fail, .selects RX7 yX7_fail yX7_fail] (apW wsX70 (apW vfX7_isWord (apW vfX7_advance (vfX7_fail)))))
theorem ifX7_takeYes_X7 : ∀ w ∈ wsX70, w ∈ vfX7_takeYes := fun _ h => (List.mem_cons_of_mem _ (List.mem_append_right _ (List.mem_append_left _ h)))
theorem qfX7_takeYes : Good vfX7_takeYes := gd_cons (by decide +kernel) (gd_app (gd_dec (by decide +kernel) : Good [.methodLink RX7 78 yX7_isWord, .instanceMethod yX7_isWord, .selects RX7 yX7_isWord yX7_isWord, .initialized RX7, .fieldLink RX7 31 "HookPier$Reader" "value" "I", .methodLink RX7 62 yX7_advance, .instanceMethod yX7_advance, .selects RX7 yX7_advance yX7_advance, .methodLink RX7 72 yX7_fail, .instanceMethod yX7_fail, .selects RX7 yX7_fail yX7_fail]) (gd_app qsX7 (gd_app qfX7_isWord (gd_app qfX7_advance qfX7_fail))))
theorem gfX7_takeYes_0 : GoodIn vfX7_takeYes (wsV RX7 78 RX7 yX7_isWord vfX7_isWord) := goodIn_app (goodIn_r [.methodLink RX7 78 yX7_isWord, .instanceMethod yX7_isWord, .selects RX7 yX7_isWord yX7_isWord, .initialized RX7] [1, 2, 3, 4] rfl (by decide +kernel)) (goodIn_m (fun _ h => (List.mem_cons_of_mem _ (List.mem_append_right _ (List.mem_append_right _ (List.mem_append_left _ h))))) qfX7_isWord)
theorem gfX7_takeYes_1 : GoodIn vfX7_takeYes (wsV RX7 62 RX7 yX7_advance vfX7_advance) := goodIn_app (goodIn_r [.methodLink RX7 62 yX7_advance, .instanceMethod yX7_advance, .selects RX7 yX7_advance yX7_advance, .initialized RX7] [6, 7, 8, 4] rfl (by decide +kernel)) (goodIn_m (fun _ h => (List.mem_cons_of_mem _ (List.mem_append_right _ (List.mem_append_right _ (List.mem_append_right _ (List.mem_append_left _ h)))))) qfX7_advance)
theorem gfX7_takeYes_2 : GoodIn vfX7_takeYes (wsV RX7 72 RX7 yX7_fail vfX7_fail) := goodIn_app (goodIn_r [.methodLink RX7 72 yX7_fail, .instanceMethod yX7_fail, .selects RX7 yX7_fail yX7_fail, .initialized RX7] [9, 10, 11, 4] rfl (by decide +kernel)) (goodIn_m (fun _ h => (List.mem_cons_of_mem _ (List.mem_append_right _ (List.mem_append_right _ (List.mem_append_right _ (List.mem_append_right _ h)))))) qfX7_fail)
set_option maxHeartbeats 2000000 in
set_option maxRecDepth 100000 in
theorem kfX7_takeYes (l : Launch) (dC : Nat → ClassId) (dI : Nat → Nat → Nat) (a0 : Nat) (ur : Nat → Nat) (kr : Nat → ClassId) (r_r : TX7_r) (sz : Nat) (B : Nat) (out : (Int32 × TX7_r)) (h : f_X7_takeYes r_r = some out) : Met l yX7_takeYes vfX7_takeYes ({ frames := 5, cells := 0, slots := 0, locals := 107 }) (PF (dC, dI) B [.ref a0] sz (bX7 a0 ur kr r_r []) (tX7 kr ([])) []) (va_Qi (S := Unit) (fun (r : Int32) _ => r = out.1 ∧ (0 ≤ r.toInt ∧ r.toInt ≤ 1)) (fun _ t => BC (dC, dI) (va_A (bX7 a0 ur kr r_r []) sz) (bX7 a0 ur kr out.2 []) [] t) (va_A (bX7 a0 ur kr r_r []) sz)) 0 0 (va_A (bX7 a0 ur kr r_r []) sz) := by
  refine Met.ofW (cc := cX7_takeYes) (maxL := 1) (ret := (some .boolean)) (by decide) rfl ?_
  intro p e s m args below meth c s₁ B0 hml hv
  obtain ⟨rfl, hsz, hP, hK, hD0, hN, hBs, hE, hX⟩ := hv
  have hBA := PF_reg hD0 hBs
  have hx := B0.exec
  have hb := B0.bytes
  have hr := B0.returns
  have hts := atoms_spec (ws := vfX7_takeYes) B0.pre
  have hown : s.vm.findClass RX7 = some m.cls := findClass_of_methodNamed B0.named
  have hlocks := B0.notSynchronized
  subst hsz
  have hD := hD0.self (sz := s.heap.size)
  generalize hAe : va_A (bX7 a0 ur kr r_r []) s.heap.size = A at hD hBA ⊢
  have hA : ∀ q : Nat, s.heap.size ≤ q → A q := fun q h => by rw [← hAe]; exact Or.inr h
  have hS : va_S A s.heap s.heap [] := va_S.rf
  have hP : va_P (dC, dI) vwCl (bX7 a0 ur kr r_r []) s.heap := hP
  have hl := lv_entry ([.ref a0]) (n := 1) (Nat.le_of_ble_eq_true rfl)
  rw [lg_entry_eq]
  generalize (lg_sl ([.ref a0]) ++ List.replicate (1 - (lg_sl ([.ref a0])).length) Slot.unset).toArray = ls at hl ⊢
  have hl : lv_has ls 1 [(0, .ref a0)] := hl
  have hB : RB B s A := ⟨hBA, hBs⟩
  refine W_q (fun QQ hQQ => ?_)
  rw [f_X7_takeYes] at h
  refine lv_aload_n hx hb dX7_takeYes_0 rfl (lv_at hl 0 rfl) ?_
  obtain ⟨s1, hs1, xs1⟩ := hE.1 (RX7, 216, "yes", tx_yes) (List.mem_of_getElem? (i := 21) rfl)
  refine va_ldcS hx hb hown hs1 dX7_takeYes_1 ?_
  obtain ⟨o3, eo3, h⟩ := bd_of h
  refine cl_i (wc := (bX7 a0 ur kr r_r [])) (wr := []) (va_runV (As := [.ref s1]) (rest := []) ⟨hx, hb, hml, hown, hts⟩ (kfX7_isWord l dC dI a0 s1 tx_yes ur kr r_r s.heap.size B o3 eo3) (cwV 1 hts gfX7_takeYes_0 rfl rfl rfl (by decide +kernel) ⟨(Nat.le_of_ble_eq_true rfl), (Nat.le_of_ble_eq_true rfl)⟩) (PVF (hP.sub (ws' := (bX7 a0 ur kr r_r [])) [0, 1, 2, 3] rfl) (hK.sub (tys' := (tX7 kr ([]))) [0, 1, 2] rfl) (hD.sub (ws' := (bX7 a0 ur kr r_r [])) [0, 1, 2, 3] (by decide) rfl) hN hS hB hE (S1c xs1 S1n) 0 rfl rfl) rfl rfl hl.1 rfl (lv_room (Nat.le_of_ble_eq_true rfl)) dX7_takeYes_3 ⟨(Nat.le_of_ble_eq_true rfl), (Nat.le_of_ble_eq_true rfl)⟩) hP hD hK hS hA [0, 1, 2, 3] [] rfl rfl (by decide) (by decide) (fun r3 _ H locs hw hP hD _ hS => ?_)
  obtain ⟨hw, br3⟩ := hw
  obtain rfl := hw.symm
  have hP : va_P (dC, dI) vwCl (bX7 a0 ur kr r_r []) H := hP
  have hD : va_D A (bX7 a0 ur kr r_r []) := hD
  have J24 : ∀ (H : Heap) (locs : List Loc) (ls : Array Slot), f_X7_takeYes_J24 r_r = some out → va_P (dC, dI) vwCl (bX7 a0 ur kr r_r []) H → va_D A (bX7 a0 ur kr r_r []) → va_S A s.heap H locs → lv_has ls 1 [(0, .ref a0)] → W p l e (headSpec vfX7_takeYes { frames := 5, cells := 0, slots := 0, locals := 107 }).room s m ([.ref a0]).toArray below meth c H locs 0 0 QQ (F0 m 24 ls []) := by
    intro  H locs ls h  hP hD hS hl
    rw [f_X7_takeYes_J24] at h
    refine lv_aload_n hx hb dX7_takeYes_24 rfl (lv_at hl 0 rfl) ?_
    refine lv_aload_n hx hb dX7_takeYes_25 rfl (lv_at hl 0 rfl) ?_
    obtain ⟨s26, hs26, xs26⟩ := hE.1 (RX7, 216, "yes", tx_yes) (List.mem_of_getElem? (i := 21) rfl)
    refine va_ldcS hx hb hown hs26 dX7_takeYes_26 ?_
    obtain ⟨o28, eo28, h⟩ := bd_of h
    refine cl_i (wc := (bX7 a0 ur kr r_r [])) (wr := []) (va_runV (As := [.ref s26]) (rest := [.ref a0]) ⟨hx, hb, hml, hown, hts⟩ (kfX7_isWord l dC dI a0 s26 tx_yes ur kr r_r H.size B o28 eo28) (cwV 1 hts gfX7_takeYes_0 rfl rfl rfl (by decide +kernel) ⟨(Nat.le_of_ble_eq_true rfl), (Nat.le_of_ble_eq_true rfl)⟩) (PVF (hP.sub (ws' := (bX7 a0 ur kr r_r [])) [0, 1, 2, 3] rfl) (hK.sub (tys' := (tX7 kr ([]))) [0, 1, 2] rfl) (hD.sub (ws' := (bX7 a0 ur kr r_r [])) [0, 1, 2, 3] (by decide) rfl) hN hS hB hE (S1c xs26 S1n) 0 rfl rfl) rfl rfl hl.1 rfl (lv_room (Nat.le_of_ble_eq_true rfl)) dX7_takeYes_28 ⟨(Nat.le_of_ble_eq_true rfl), (Nat.le_of_ble_eq_true rfl)⟩) hP hD hK hS hA [0, 1, 2, 3] [] rfl rfl (by decide) (by decide) (fun r28 _ H locs hw hP hD _ hS => ?_)
    obtain ⟨hw, br28⟩ := hw
    obtain rfl := hw.symm
    have hP : va_P (dC, dI) vwCl (bX7 a0 ur kr r_r []) H := hP
    have hD : va_D A (bX7 a0 ur kr r_r []) := hD
    have J39 : ∀ (v39_t1 : Int32) (H : Heap) (locs : List Loc) (ls : Array Slot), f_X7_takeYes_J39 r_r v39_t1 = some out → 0 ≤ v39_t1.toInt ∧ v39_t1.toInt ≤ 1 → va_P (dC, dI) vwCl (bX7 a0 ur kr r_r []) H → va_D A (bX7 a0 ur kr r_r []) → va_S A s.heap H locs → lv_has ls 1 [(0, .ref a0)] → W p l e (headSpec vfX7_takeYes { frames := 5, cells := 0, slots := 0, locals := 107 }).room s m ([.ref a0]).toArray below meth c H locs 0 0 QQ (F0 m 39 ls [.int v39_t1, .ref a0]) := by
      intro v39_t1 H locs ls h zb_v39_t1 hP hD hS hl
      rw [f_X7_takeYes_J39] at h
      refine va_put (D := (dC, dI)) (ci := 5) (v := .int v39_t1) (ty := .int) (C := RX7) (T := TX7) (N := 12) hx hb hts ifX7_takeYes_X7 tyX7 tyX7_ok nmX7 hown hK hP hD hS 0 rfl rfl 6 (by decide) (hts (.fieldLink RX7 31 "HookPier$Reader" "value" "I") (List.mem_of_getElem? (i := 5) rfl)) (fun _ h9 => h9) rfl (by decide +kernel) rfl rfl (Nat.le_of_ble_eq_true rfl) dX7_takeYes_39 (fun H locs hP hD hS => ?_)
      have hP : va_P (dC, dI) vwCl (bX7 a0 ur kr (r_r.1, r_r.2.1, r_r.2.2.1, r_r.2.2.2.1, r_r.2.2.2.2.1, r_r.2.2.2.2.2.1, v39_t1, r_r.2.2.2.2.2.2.2) []) H := hP
      have hD : va_D A (bX7 a0 ur kr (r_r.1, r_r.2.1, r_r.2.2.1, r_r.2.2.2.1, r_r.2.2.2.2.1, r_r.2.2.2.2.2.1, v39_t1, r_r.2.2.2.2.2.2.2) []) := hD
      refine lv_aload_n hx hb dX7_takeYes_42 rfl (lv_at hl 0 rfl) ?_
      obtain ⟨o43, eo43, h⟩ := bd_of h
      refine cl_v (wc := (bX7 a0 ur kr (r_r.1, r_r.2.1, r_r.2.2.1, r_r.2.2.2.1, r_r.2.2.2.2.1, r_r.2.2.2.2.2.1, v39_t1, r_r.2.2.2.2.2.2.2) [])) (wr := []) (va_runV (As := []) (rest := []) ⟨hx, hb, hml, hown, hts⟩ (kfX7_advance l dC dI a0 ur kr (r_r.1, r_r.2.1, r_r.2.2.1, r_r.2.2.2.1, r_r.2.2.2.2.1, r_r.2.2.2.2.2.1, v39_t1, r_r.2.2.2.2.2.2.2) H.size o43 eo43) (cwV 0 hts gfX7_takeYes_1 rfl rfl rfl (by decide +kernel) ⟨(Nat.le_of_ble_eq_true rfl), (Nat.le_of_ble_eq_true rfl)⟩) (PV (hP.sub (ws' := (bX7 a0 ur kr (r_r.1, r_r.2.1, r_r.2.2.1, r_r.2.2.2.1, r_r.2.2.2.2.1, r_r.2.2.2.2.2.1, v39_t1, r_r.2.2.2.2.2.2.2) [])) [0, 1, 2, 3] rfl) (hK.sub (tys' := (tX7 kr ([]))) [0, 1, 2] rfl) (hD.sub (ws' := (bX7 a0 ur kr (r_r.1, r_r.2.1, r_r.2.2.1, r_r.2.2.2.1, r_r.2.2.2.2.1, r_r.2.2.2.2.2.1, v39_t1, r_r.2.2.2.2.2.2.2) [])) [0, 1, 2, 3] (by decide) rfl) hN 0 rfl rfl) rfl rfl hl.1 rfl (lv_room (Nat.le_of_ble_eq_true rfl)) dX7_takeYes_43 ⟨(Nat.le_of_ble_eq_true rfl), (Nat.le_of_ble_eq_true rfl)⟩) hP hD hK hS hA [0, 1, 2, 3] [] rfl rfl (by decide) (by decide) (fun _ H locs hw hP hD _ hS => ?_)
      have hP : va_P (dC, dI) vwCl (bX7 a0 ur kr o43 []) H := hP
      have hD : va_D A (bX7 a0 ur kr o43 []) := hD
      refine lv_iconst (v := 1) hx hb dX7_takeYes_46 (by decide) ?_
      obtain rfl := Option.some.inj h
      have hP9 := hP.sub (ws' := (bX7 a0 ur kr o43 [])) [0, 1, 2, 3] rfl
      have hD9 := hD.sub (ws' := (bX7 a0 ur kr o43 [])) [0, 1, 2, 3] (by decide) rfl
      have hK9 := hK.sub (tys' := []) [] rfl
      rw [hQQ]
      exact W.zret (v := (1 : Int32)) hx hb hr rfl (fun t ht hW => ⟨⟨(1 : Int32), (), rfl, ⟨rfl, (by decide)⟩, by rw [ht]; exact hP9, va_K.moved hW.alike hK9, hD9⟩, hS.F ht⟩) hS.2.2 dX7_takeYes_47
    refine lv_if_eq (tgt := 38) hx hb dX7_takeYes_31 (by decide) (fun c31 => ?_) (fun c31 => ?_)
    · have h := (if_pos c31).symm.trans h
      refine lv_iconst (v := 0) hx hb dX7_takeYes_38 (by decide) ?_
      exact J39 (0 : Int32) H _ ls h (by decide) hP hD hS (lv_sub hl [0] rfl)
    · have h := (if_neg c31).symm.trans h
      refine lv_iconst (v := 1) hx hb dX7_takeYes_34 (by decide) ?_
      refine lv_goto (tgt := 39) hx hb dX7_takeYes_35 (by decide) ?_
      exact J39 (1 : Int32) H _ ls h (by decide) hP hD hS (lv_sub hl [0] rfl)
  refine lv_if_ne (tgt := 24) hx hb dX7_takeYes_6 (by decide) (fun c6 => ?_) (fun c6 => ?_)
  · have h := (if_neg c6).symm.trans h
    exact J24  H _ ls h  hP hD hS (lv_sub hl [0] rfl)
  · have h := (if_pos c6).symm.trans h
    refine lv_aload_n hx hb dX7_takeYes_9 rfl (lv_at hl 0 rfl) ?_
    obtain ⟨s10, hs10, xs10⟩ := hE.1 (RX7, 218, "no", tx_no) (List.mem_of_getElem? (i := 22) rfl)
    refine va_ldcS hx hb hown hs10 dX7_takeYes_10 ?_
    obtain ⟨o12, eo12, h⟩ := bd_of h
    refine cl_i (wc := (bX7 a0 ur kr r_r [])) (wr := []) (va_runV (As := [.ref s10]) (rest := []) ⟨hx, hb, hml, hown, hts⟩ (kfX7_isWord l dC dI a0 s10 tx_no ur kr r_r H.size B o12 eo12) (cwV 1 hts gfX7_takeYes_0 rfl rfl rfl (by decide +kernel) ⟨(Nat.le_of_ble_eq_true rfl), (Nat.le_of_ble_eq_true rfl)⟩) (PVF (hP.sub (ws' := (bX7 a0 ur kr r_r [])) [0, 1, 2, 3] rfl) (hK.sub (tys' := (tX7 kr ([]))) [0, 1, 2] rfl) (hD.sub (ws' := (bX7 a0 ur kr r_r [])) [0, 1, 2, 3] (by decide) rfl) hN hS hB hE (S1c xs10 S1n) 0 rfl rfl) rfl rfl hl.1 rfl (lv_room (Nat.le_of_ble_eq_true rfl)) dX7_takeYes_12 ⟨(Nat.le_of_ble_eq_true rfl), (Nat.le_of_ble_eq_true rfl)⟩) hP hD hK hS hA [0, 1, 2, 3] [] rfl rfl (by decide) (by decide) (fun r12 _ H locs hw hP hD _ hS => ?_)
    obtain ⟨hw, br12⟩ := hw
    obtain rfl := hw.symm
    have hP : va_P (dC, dI) vwCl (bX7 a0 ur kr r_r []) H := hP
    have hD : va_D A (bX7 a0 ur kr r_r []) := hD
    refine lv_if_ne (tgt := 24) hx hb dX7_takeYes_15 (by decide) (fun c15 => ?_) (fun c15 => ?_)
    · have h := (if_neg c15).symm.trans h
      exact J24  H _ ls h  hP hD hS (lv_sub hl [0] rfl)
    · have h := (if_pos c15).symm.trans h
      refine lv_aload_n hx hb dX7_takeYes_18 rfl (lv_at hl 0 rfl) ?_
      refine lv_iconst (v := 1) hx hb dX7_takeYes_19 (by decide) ?_
      obtain ⟨o20, eo20⟩ : ∃ o, o = f_X7_fail (1 : Int32) r_r := ⟨_, rfl⟩
      have h := nm_of h o20 eo20
      refine cl_i (wc := (bX7 a0 ur kr r_r [])) (wr := []) (va_runV (As := [.int 1]) (rest := []) ⟨hx, hb, hml, hown, hts⟩ (kfX7_fail l dC dI a0 (1 : Int32) ur kr r_r H.size o20 eo20.symm) (cwV 1 hts gfX7_takeYes_2 rfl rfl rfl (by decide +kernel) ⟨(Nat.le_of_ble_eq_true rfl), (Nat.le_of_ble_eq_true rfl)⟩) (PV (hP.sub (ws' := (bX7 a0 ur kr r_r [])) [0, 1, 2, 3] rfl) (hK.sub (tys' := (tX7 kr ([]))) [0, 1, 2] rfl) (hD.sub (ws' := (bX7 a0 ur kr r_r [])) [0, 1, 2, 3] (by decide) rfl) hN 0 rfl rfl) rfl rfl hl.1 rfl (lv_room (Nat.le_of_ble_eq_true rfl)) dX7_takeYes_20 ⟨(Nat.le_of_ble_eq_true rfl), (Nat.le_of_ble_eq_true rfl)⟩) hP hD hK hS hA [0, 1, 2, 3] [] rfl rfl (by decide) (by decide) (fun r20 _ H locs hw hP hD _ hS => ?_)
      obtain ⟨hw, br20⟩ := hw
      obtain rfl := hw
      have hP : va_P (dC, dI) vwCl (bX7 a0 ur kr o20 []) H := hP
      have hD : va_D A (bX7 a0 ur kr o20 []) := hD
      obtain rfl := Option.some.inj h
      have hP9 := hP.sub (ws' := (bX7 a0 ur kr o20 [])) [0, 1, 2, 3] rfl
      have hD9 := hD.sub (ws' := (bX7 a0 ur kr o20 [])) [0, 1, 2, 3] (by decide) rfl
      have hK9 := hK.sub (tys' := []) [] rfl
      rw [hQQ]
      exact W.zret (v := (0 : Int32)) hx hb hr rfl (fun t ht hW => ⟨⟨(0 : Int32), (), rfl, ⟨rfl, (by decide)⟩, by rw [ht]; exact hP9, va_K.moved hW.alike hK9, hD9⟩, hS.F ht⟩) hS.2.2 dX7_takeYes_23
theorem dX7_takeNewName_0 : decode cX7_takeNewName 0 = .ok (.aload_n 0, 1) := by decide +kernel
theorem dX7_takeNewName_1 : decode cX7_takeNewName 1 = .ok (.invokevirtual 220, 3) := by decide +kernel
theorem dX7_takeNewName_12 : decode cX7_takeNewName 12 = .ok (.ireturn, 1) := by decide +kernel
theorem dX7_takeNewName_13 : decode cX7_takeNewName 13 = .ok (.aload_n 0, 1) := by decide +kernel
theorem dX7_takeNewName_14 : decode cX7_takeNewName 14 = .ok (.invokevirtual 223, 3) := by decide +kernel
theorem dX7_takeNewName_17 : decode cX7_takeNewName 17 = .ok (.lstore_n 2, 1) := by decide +kernel
theorem dX7_takeNewName_18 : decode cX7_takeNewName 18 = .ok (.aload_n 0, 1) := by decide +kernel
theorem dX7_takeNewName_19 : decode cX7_takeNewName 19 = .ok (.lload_n 2, 1) := by decide +kernel
theorem dX7_takeNewName_20 : decode cX7_takeNewName 20 = .ok (.invokevirtual 227, 3) := by decide +kernel
theorem dX7_takeNewName_23 : decode cX7_takeNewName 23 = .ok (.iconst (-1), 1) := by decide +kernel
theorem dX7_takeNewName_24 : decode cX7_takeNewName 24 = .ok (.if_icmp .ne 15, 3) := by decide +kernel
theorem dX7_takeNewName_27 : decode cX7_takeNewName 27 = .ok (.aload_n 0, 1) := by decide +kernel
theorem dX7_takeNewName_28 : decode cX7_takeNewName 28 = .ok (.getfield 42, 3) := by decide +kernel
theorem dX7_takeNewName_31 : decode cX7_takeNewName 31 = .ok (.aload_n 0, 1) := by decide +kernel
theorem dX7_takeNewName_32 : decode cX7_takeNewName 32 = .ok (.getfield 34, 3) := by decide +kernel
theorem dX7_takeNewName_35 : decode cX7_takeNewName 35 = .ok (.arraylength, 1) := by decide +kernel
theorem dX7_takeNewName_36 : decode cX7_takeNewName 36 = .ok (.if_icmp .lt 9, 3) := by decide +kernel
theorem dX7_takeNewName_39 : decode cX7_takeNewName 39 = .ok (.aload_n 0, 1) := by decide +kernel
theorem dX7_takeNewName_4 : decode cX7_takeNewName 4 = .ok (.ifCond .ne 9, 3) := by decide +kernel
theorem dX7_takeNewName_40 : decode cX7_takeNewName 40 = .ok (.iconst 3, 1) := by decide +kernel
theorem dX7_takeNewName_41 : decode cX7_takeNewName 41 = .ok (.invokevirtual 72, 3) := by decide +kernel
theorem dX7_takeNewName_44 : decode cX7_takeNewName 44 = .ok (.ireturn, 1) := by decide +kernel
theorem dX7_takeNewName_45 : decode cX7_takeNewName 45 = .ok (.aload_n 0, 1) := by decide +kernel
theorem dX7_takeNewName_46 : decode cX7_takeNewName 46 = .ok (.getfield 34, 3) := by decide +kernel
theorem dX7_takeNewName_49 : decode cX7_takeNewName 49 = .ok (.aload_n 0, 1) := by decide +kernel
theorem dX7_takeNewName_50 : decode cX7_takeNewName 50 = .ok (.getfield 42, 3) := by decide +kernel
theorem dX7_takeNewName_53 : decode cX7_takeNewName 53 = .ok (.lload_n 2, 1) := by decide +kernel
theorem dX7_takeNewName_54 : decode cX7_takeNewName 54 = .ok (.lastore, 1) := by decide +kernel
theorem dX7_takeNewName_55 : decode cX7_takeNewName 55 = .ok (.aload_n 0, 1) := by decide +kernel
theorem dX7_takeNewName_56 : decode cX7_takeNewName 56 = .ok (.getfield 38, 3) := by decide +kernel
theorem dX7_takeNewName_59 : decode cX7_takeNewName 59 = .ok (.aload_n 0, 1) := by decide +kernel
theorem dX7_takeNewName_60 : decode cX7_takeNewName 60 = .ok (.getfield 42, 3) := by decide +kernel
theorem dX7_takeNewName_63 : decode cX7_takeNewName 63 = .ok (.iload_n 1, 1) := by decide +kernel
theorem dX7_takeNewName_64 : decode cX7_takeNewName 64 = .ok (.iastore, 1) := by decide +kernel
theorem dX7_takeNewName_65 : decode cX7_takeNewName 65 = .ok (.aload_n 0, 1) := by decide +kernel
theorem dX7_takeNewName_66 : decode cX7_takeNewName 66 = .ok (.dup, 1) := by decide +kernel
theorem dX7_takeNewName_67 : decode cX7_takeNewName 67 = .ok (.getfield 42, 3) := by decide +kernel
theorem dX7_takeNewName_7 : decode cX7_takeNewName 7 = .ok (.aload_n 0, 1) := by decide +kernel
theorem dX7_takeNewName_70 : decode cX7_takeNewName 70 = .ok (.iconst 1, 1) := by decide +kernel
theorem dX7_takeNewName_71 : decode cX7_takeNewName 71 = .ok (.iadd, 1) := by decide +kernel
theorem dX7_takeNewName_72 : decode cX7_takeNewName 72 = .ok (.putfield 42, 3) := by decide +kernel
theorem dX7_takeNewName_75 : decode cX7_takeNewName 75 = .ok (.aload_n 0, 1) := by decide +kernel
theorem dX7_takeNewName_76 : decode cX7_takeNewName 76 = .ok (.invokevirtual 62, 3) := by decide +kernel
theorem dX7_takeNewName_79 : decode cX7_takeNewName 79 = .ok (.iconst 1, 1) := by decide +kernel
theorem dX7_takeNewName_8 : decode cX7_takeNewName 8 = .ok (.iconst 1, 1) := by decide +kernel
theorem dX7_takeNewName_80 : decode cX7_takeNewName 80 = .ok (.ireturn, 1) := by decide +kernel
theorem dX7_takeNewName_9 : decode cX7_takeNewName 9 = .ok (.invokevirtual 72, 3) := by decide +kernel
def vfX7_takeNewName : List Cond := List.cons (.code yX7_takeNewName cX7_takeNewName 4 (some .boolean)) (apW [.methodLink RX7 220 yX7_isName, .instanceMethod yX7_isName, .selects RX7 yX7_isName yX7_isName, .initialized RX7, .methodLink RX7 223 yX7_wordCode, .instanceMethod yX7_wordCode, .selects RX7 yX7_wordCode yX7_wordCode, .methodLink RX7 227 yX7_nameOf, .instanceMethod yX7_nameOf, .selects RX7 yX7_nameOf yX7_nameOf, .methodLink RX7 72 yX7_fail, .instanceMethod yX7_fail, .selects RX7 yX7_fail yX7_fail, .fieldLink RX7 42 "HookPier$Reader" "names" "I", .fieldLink RX7 34 "HookPier$Reader" "name" "[J", .fieldLink RX7 38 "HookPier$Reader" "nameBait" "[I", .methodLink RX7 62 yX7_advance, .instanceMethod yX7_advance, .selects RX7 yX7_advance yX7_advance] (apW wsX70 (apW vfX7_isName (apW vfX7_wordCode (apW vfX7_nameOf (apW vfX7_fail (vfX7_advance)))))))
theorem ifX7_takeNewName_X7 : ∀ w ∈ wsX70, w ∈ vfX7_takeNewName := fun _ h => (List.mem_cons_of_mem _ (List.mem_append_right _ (List.mem_append_left _ h)))
theorem qfX7_takeNewName : Good vfX7_takeNewName := gd_cons (by decide +kernel) (gd_app (gd_dec (by decide +kernel) : Good [.methodLink RX7 220 yX7_isName, .instanceMethod yX7_isName, .selects RX7 yX7_isName yX7_isName, .initialized RX7, .methodLink RX7 223 yX7_wordCode, .instanceMethod yX7_wordCode, .selects RX7 yX7_wordCode yX7_wordCode, .methodLink RX7 227 yX7_nameOf, .instanceMethod yX7_nameOf, .selects RX7 yX7_nameOf yX7_nameOf, .methodLink RX7 72 yX7_fail, .instanceMethod yX7_fail, .selects RX7 yX7_fail yX7_fail, .fieldLink RX7 42 "HookPier$Reader" "names" "I", .fieldLink RX7 34 "HookPier$Reader" "name" "[J", .fieldLink RX7 38 "HookPier$Reader" "nameBait" "[I", .methodLink RX7 62 yX7_advance, .instanceMethod yX7_advance, .selects RX7 yX7_advance yX7_advance]) (gd_app qsX7 (gd_app qfX7_isName (gd_app qfX7_wordCode (gd_app qfX7_nameOf (gd_app qfX7_fail qfX7_advance))))))
theorem gfX7_takeNewName_0 : GoodIn vfX7_takeNewName (wsV RX7 220 RX7 yX7_isName vfX7_isName) := goodIn_app (goodIn_r [.methodLink RX7 220 yX7_isName, .instanceMethod yX7_isName, .selects RX7 yX7_isName yX7_isName, .initialized RX7] [1, 2, 3, 4] rfl (by decide +kernel)) (goodIn_m (fun _ h => (List.mem_cons_of_mem _ (List.mem_append_right _ (List.mem_append_right _ (List.mem_append_left _ h))))) qfX7_isName)
theorem gfX7_takeNewName_1 : GoodIn vfX7_takeNewName (wsV RX7 223 RX7 yX7_wordCode vfX7_wordCode) := goodIn_app (goodIn_r [.methodLink RX7 223 yX7_wordCode, .instanceMethod yX7_wordCode, .selects RX7 yX7_wordCode yX7_wordCode, .initialized RX7] [5, 6, 7, 4] rfl (by decide +kernel)) (goodIn_m (fun _ h => (List.mem_cons_of_mem _ (List.mem_append_right _ (List.mem_append_right _ (List.mem_append_right _ (List.mem_append_left _ h)))))) qfX7_wordCode)
theorem gfX7_takeNewName_2 : GoodIn vfX7_takeNewName (wsV RX7 227 RX7 yX7_nameOf vfX7_nameOf) := goodIn_app (goodIn_r [.methodLink RX7 227 yX7_nameOf, .instanceMethod yX7_nameOf, .selects RX7 yX7_nameOf yX7_nameOf, .initialized RX7] [8, 9, 10, 4] rfl (by decide +kernel)) (goodIn_m (fun _ h => (List.mem_cons_of_mem _ (List.mem_append_right _ (List.mem_append_right _ (List.mem_append_right _ (List.mem_append_right _ (List.mem_append_left _ h))))))) qfX7_nameOf)
theorem gfX7_takeNewName_3 : GoodIn vfX7_takeNewName (wsV RX7 72 RX7 yX7_fail vfX7_fail) := goodIn_app (goodIn_r [.methodLink RX7 72 yX7_fail, .instanceMethod yX7_fail, .selects RX7 yX7_fail yX7_fail, .initialized RX7] [11, 12, 13, 4] rfl (by decide +kernel)) (goodIn_m (fun _ h => (List.mem_cons_of_mem _ (List.mem_append_right _ (List.mem_append_right _ (List.mem_append_right _ (List.mem_append_right _ (List.mem_append_right _ (List.mem_append_left _ h)))))))) qfX7_fail)
theorem gfX7_takeNewName_4 : GoodIn vfX7_takeNewName (wsV RX7 62 RX7 yX7_advance vfX7_advance) := goodIn_app (goodIn_r [.methodLink RX7 62 yX7_advance, .instanceMethod yX7_advance, .selects RX7 yX7_advance yX7_advance, .initialized RX7] [17, 18, 19, 4] rfl (by decide +kernel)) (goodIn_m (fun _ h => (List.mem_cons_of_mem _ (List.mem_append_right _ (List.mem_append_right _ (List.mem_append_right _ (List.mem_append_right _ (List.mem_append_right _ (List.mem_append_right _ h)))))))) qfX7_advance)
set_option maxHeartbeats 2000000 in
set_option maxRecDepth 100000 in
theorem kfX7_takeNewName (l : Launch) (dC : Nat → ClassId) (dI : Nat → Nat → Nat) (a0 : Nat) (k1 : Int32) (ur : Nat → Nat) (kr : Nat → ClassId) (r_r : TX7_r) (sz : Nat) (B : Nat) (out : (Int32 × TX7_r)) (h : f_X7_takeNewName k1 r_r = some out) : Met l yX7_takeNewName vfX7_takeNewName ({ frames := 6, cells := 0, slots := 0, locals := 127 }) (PF (dC, dI) B [.ref a0, .int k1] sz (bX7 a0 ur kr r_r []) (tX7 kr ([])) []) (va_Qi (S := Unit) (fun (r : Int32) _ => r = out.1 ∧ (0 ≤ r.toInt ∧ r.toInt ≤ 1)) (fun _ t => BC (dC, dI) (va_A (bX7 a0 ur kr r_r []) sz) (bX7 a0 ur kr out.2 []) [] t) (va_A (bX7 a0 ur kr r_r []) sz)) 0 0 (va_A (bX7 a0 ur kr r_r []) sz) := by
  refine Met.ofW (cc := cX7_takeNewName) (maxL := 4) (ret := (some .boolean)) (by decide) rfl ?_
  intro p e s m args below meth c s₁ B0 hml hv
  obtain ⟨rfl, hsz, hP, hK, hD0, hN, hBs, hE, hX⟩ := hv
  have hBA := PF_reg hD0 hBs
  have hx := B0.exec
  have hb := B0.bytes
  have hr := B0.returns
  have hts := atoms_spec (ws := vfX7_takeNewName) B0.pre
  have hown : s.vm.findClass RX7 = some m.cls := findClass_of_methodNamed B0.named
  have hlocks := B0.notSynchronized
  subst hsz
  have hD := hD0.self (sz := s.heap.size)
  generalize hAe : va_A (bX7 a0 ur kr r_r []) s.heap.size = A at hD hBA ⊢
  have hA : ∀ q : Nat, s.heap.size ≤ q → A q := fun q h => by rw [← hAe]; exact Or.inr h
  have hS : va_S A s.heap s.heap [] := va_S.rf
  have hP : va_P (dC, dI) vwCl (bX7 a0 ur kr r_r []) s.heap := hP
  have hl := lv_entry ([.ref a0, .int k1]) (n := 4) (Nat.le_of_ble_eq_true rfl)
  rw [lg_entry_eq]
  generalize (lg_sl ([.ref a0, .int k1]) ++ List.replicate (4 - (lg_sl ([.ref a0, .int k1])).length) Slot.unset).toArray = ls at hl ⊢
  have hl : lv_has ls 4 [(0, .ref a0), (1, .int k1)] := hl
  have hB : RB B s A := ⟨hBA, hBs⟩
  refine W_q (fun QQ hQQ => ?_)
  rw [f_X7_takeNewName] at h
  refine lv_aload_n hx hb dX7_takeNewName_0 rfl (lv_at hl 0 rfl) ?_
  obtain ⟨o1, eo1, h⟩ := bd_of h
  refine cl_i (wc := (bX7 a0 ur kr r_r [])) (wr := []) (va_runV (As := []) (rest := []) ⟨hx, hb, hml, hown, hts⟩ (kfX7_isName l dC dI a0 ur kr r_r s.heap.size B o1 eo1) (cwV 0 hts gfX7_takeNewName_0 rfl rfl rfl (by decide +kernel) ⟨(Nat.le_of_ble_eq_true rfl), (Nat.le_of_ble_eq_true rfl)⟩) (PVF (hP.sub (ws' := (bX7 a0 ur kr r_r [])) [0, 1, 2, 3] rfl) (hK.sub (tys' := (tX7 kr ([]))) [0, 1, 2] rfl) (hD.sub (ws' := (bX7 a0 ur kr r_r [])) [0, 1, 2, 3] (by decide) rfl) hN hS hB hE S1n 0 rfl rfl) rfl rfl hl.1 rfl (lv_room (Nat.le_of_ble_eq_true rfl)) dX7_takeNewName_1 ⟨(Nat.le_of_ble_eq_true rfl), (Nat.le_of_ble_eq_true rfl)⟩) hP hD hK hS hA [0, 1, 2, 3] [] rfl rfl (by decide) (by decide) (fun r1 _ H locs hw hP hD _ hS => ?_)
  obtain ⟨hw, br1⟩ := hw
  obtain rfl := hw.symm
  have hP : va_P (dC, dI) vwCl (bX7 a0 ur kr r_r []) H := hP
  have hD : va_D A (bX7 a0 ur kr r_r []) := hD
  refine lv_if_ne (tgt := 13) hx hb dX7_takeNewName_4 (by decide) (fun c4 => ?_) (fun c4 => ?_)
  · have h := (if_neg c4).symm.trans h
    refine lv_aload_n hx hb dX7_takeNewName_13 rfl (lv_at hl 0 rfl) ?_
    obtain ⟨o14, eo14, h⟩ := bd_of h
    refine cl_l (wc := (bX7 a0 ur kr r_r [])) (wr := []) (va_runV (As := []) (rest := []) ⟨hx, hb, hml, hown, hts⟩ (kfX7_wordCode l dC dI a0 ur kr r_r H.size o14 eo14) (cwV 0 hts gfX7_takeNewName_1 rfl rfl rfl (by decide +kernel) ⟨(Nat.le_of_ble_eq_true rfl), (Nat.le_of_ble_eq_true rfl)⟩) (PV (hP.sub (ws' := (bX7 a0 ur kr r_r [])) [0, 1, 2, 3] rfl) (hK.sub (tys' := (tX7 kr ([]))) [0, 1, 2] rfl) (hD.sub (ws' := (bX7 a0 ur kr r_r [])) [0, 1, 2, 3] (by decide) rfl) hN 0 rfl rfl) rfl rfl hl.1 rfl (lv_room (Nat.le_of_ble_eq_true rfl)) dX7_takeNewName_14 ⟨(Nat.le_of_ble_eq_true rfl), (Nat.le_of_ble_eq_true rfl)⟩) hP hD hK hS hA [0, 1, 2, 3] [] rfl rfl (by decide) (by decide) (fun r14 _ H locs hw hP hD _ hS => ?_)
    obtain rfl := hw.symm
    have hP : va_P (dC, dI) vwCl (bX7 a0 ur kr r_r []) H := hP
    have hD : va_D A (bX7 a0 ur kr r_r []) := hD
    refine lv_lstore_n (lv' := [(2, .long o14), (0, .ref a0), (1, .int k1)]) hx hb dX7_takeNewName_17 rfl hl (by decide) rfl (fun ls hl => ?_)
    refine lv_aload_n hx hb dX7_takeNewName_18 rfl (lv_at hl 1 rfl) ?_
    refine lv_lload_n hx hb dX7_takeNewName_19 rfl (lv_at hl 0 rfl) ?_
    obtain ⟨o20, eo20, h⟩ := bd_of h
    refine cl_i (wc := (bX7 a0 ur kr r_r [])) (wr := []) (va_runV (As := [.long o14]) (rest := []) ⟨hx, hb, hml, hown, hts⟩ (kfX7_nameOf l dC dI a0 o14 ur kr r_r H.size o20 eo20) (cwV 1 hts gfX7_takeNewName_2 rfl rfl rfl (by decide +kernel) ⟨(Nat.le_of_ble_eq_true rfl), (Nat.le_of_ble_eq_true rfl)⟩) (PV (hP.sub (ws' := (bX7 a0 ur kr r_r [])) [0, 1, 2, 3] rfl) (hK.sub (tys' := (tX7 kr ([]))) [0, 1, 2] rfl) (hD.sub (ws' := (bX7 a0 ur kr r_r [])) [0, 1, 2, 3] (by decide) rfl) hN 0 rfl rfl) rfl rfl hl.1 rfl (lv_room (Nat.le_of_ble_eq_true rfl)) dX7_takeNewName_20 ⟨(Nat.le_of_ble_eq_true rfl), (Nat.le_of_ble_eq_true rfl)⟩) hP hD hK hS hA [0, 1, 2, 3] [] rfl rfl (by decide) (by decide) (fun r20 _ H locs hw hP hD _ hS => ?_)
    obtain rfl := hw.symm
    have hP : va_P (dC, dI) vwCl (bX7 a0 ur kr r_r []) H := hP
    have hD : va_D A (bX7 a0 ur kr r_r []) := hD
    refine lv_iconst (v := (-1)) hx hb dX7_takeNewName_23 (by decide) ?_
    have J39 : ∀ (H : Heap) (locs : List Loc) (ls : Array Slot), f_X7_takeNewName_J39 r_r = some out → va_P (dC, dI) vwCl (bX7 a0 ur kr r_r []) H → va_D A (bX7 a0 ur kr r_r []) → va_S A s.heap H locs → lv_has ls 4 [(0, .ref a0)] → W p l e (headSpec vfX7_takeNewName { frames := 6, cells := 0, slots := 0, locals := 127 }).room s m ([.ref a0, .int k1]).toArray below meth c H locs 0 0 QQ (F0 m 39 ls []) := by
      intro  H locs ls h  hP hD hS hl
      rw [f_X7_takeNewName_J39] at h
      refine lv_aload_n hx hb dX7_takeNewName_39 rfl (lv_at hl 0 rfl) ?_
      refine lv_iconst (v := 3) hx hb dX7_takeNewName_40 (by decide) ?_
      obtain ⟨o41, eo41⟩ : ∃ o, o = f_X7_fail (3 : Int32) r_r := ⟨_, rfl⟩
      have h := nm_of h o41 eo41
      refine cl_i (wc := (bX7 a0 ur kr r_r [])) (wr := []) (va_runV (As := [.int 3]) (rest := []) ⟨hx, hb, hml, hown, hts⟩ (kfX7_fail l dC dI a0 (3 : Int32) ur kr r_r H.size o41 eo41.symm) (cwV 1 hts gfX7_takeNewName_3 rfl rfl rfl (by decide +kernel) ⟨(Nat.le_of_ble_eq_true rfl), (Nat.le_of_ble_eq_true rfl)⟩) (PV (hP.sub (ws' := (bX7 a0 ur kr r_r [])) [0, 1, 2, 3] rfl) (hK.sub (tys' := (tX7 kr ([]))) [0, 1, 2] rfl) (hD.sub (ws' := (bX7 a0 ur kr r_r [])) [0, 1, 2, 3] (by decide) rfl) hN 0 rfl rfl) rfl rfl hl.1 rfl (lv_room (Nat.le_of_ble_eq_true rfl)) dX7_takeNewName_41 ⟨(Nat.le_of_ble_eq_true rfl), (Nat.le_of_ble_eq_true rfl)⟩) hP hD hK hS hA [0, 1, 2, 3] [] rfl rfl (by decide) (by decide) (fun r41 _ H locs hw hP hD _ hS => ?_)
      obtain ⟨hw, br41⟩ := hw
      obtain rfl := hw
      have hP : va_P (dC, dI) vwCl (bX7 a0 ur kr o41 []) H := hP
      have hD : va_D A (bX7 a0 ur kr o41 []) := hD
      obtain rfl := Option.some.inj h
      have hP9 := hP.sub (ws' := (bX7 a0 ur kr o41 [])) [0, 1, 2, 3] rfl
      have hD9 := hD.sub (ws' := (bX7 a0 ur kr o41 [])) [0, 1, 2, 3] (by decide) rfl
      have hK9 := hK.sub (tys' := []) [] rfl
      rw [hQQ]
      exact W.zret (v := (0 : Int32)) hx hb hr rfl (fun t ht hW => ⟨⟨(0 : Int32), (), rfl, ⟨rfl, (by decide)⟩, by rw [ht]; exact hP9, va_K.moved hW.alike hK9, hD9⟩, hS.F ht⟩) hS.2.2 dX7_takeNewName_44
    refine lv_icmp_ne (tgt := 39) hx hb dX7_takeNewName_24 (by decide) (fun c24 => ?_) (fun c24 => ?_)
    · have h := (if_neg c24).symm.trans h
      exact J39  H _ ls h  hP hD hS (lv_sub hl [1] rfl)
    · have h := (if_pos c24).symm.trans h
      refine lv_aload_n hx hb dX7_takeNewName_27 rfl (lv_at hl 1 rfl) ?_
      refine va_get (D := (dC, dI)) (ci := 5) (v := .int r_r.2.2.2.2.2.2.2.2.2.1) (C := RX7) (T := TX7) (N := 12) hx hb hts ifX7_takeNewName_X7 hown hK hP 0 rfl rfl 9 (by decide) (hts (.fieldLink RX7 42 "HookPier$Reader" "names" "I") (List.mem_of_getElem? (i := 14) rfl)) (fun _ h9 => h9) rfl dX7_takeNewName_28 ?_
      refine lv_aload_n hx hb dX7_takeNewName_31 rfl (lv_at hl 1 rfl) ?_
      refine va_get (D := (dC, dI)) (ci := 5) (v := .ref (ur 1)) (C := RX7) (T := TX7) (N := 12) hx hb hts ifX7_takeNewName_X7 hown hK hP 0 rfl rfl 7 (by decide) (hts (.fieldLink RX7 34 "HookPier$Reader" "name" "[J") (List.mem_of_getElem? (i := 15) rfl)) (fun _ h9 => h9) rfl dX7_takeNewName_32 ?_
      refine va_alen (v := 15) hx hb hK hP 2 1 rfl rfl rfl dX7_takeNewName_35 ?_
      refine lv_icmp_lt (tgt := 45) hx hb dX7_takeNewName_36 (by decide) (fun c36 => ?_) (fun c36 => ?_)
      · have h := (if_pos c36).symm.trans h
        refine lv_aload_n hx hb dX7_takeNewName_45 rfl (lv_at hl 1 rfl) ?_
        refine va_get (D := (dC, dI)) (ci := 5) (v := .ref (ur 1)) (C := RX7) (T := TX7) (N := 12) hx hb hts ifX7_takeNewName_X7 hown hK hP 0 rfl rfl 7 (by decide) (hts (.fieldLink RX7 34 "HookPier$Reader" "name" "[J") (List.mem_of_getElem? (i := 15) rfl)) (fun _ h9 => h9) rfl dX7_takeNewName_46 ?_
        refine lv_aload_n hx hb dX7_takeNewName_49 rfl (lv_at hl 1 rfl) ?_
        refine va_get (D := (dC, dI)) (ci := 5) (v := .int r_r.2.2.2.2.2.2.2.2.2.1) (C := RX7) (T := TX7) (N := 12) hx hb hts ifX7_takeNewName_X7 hown hK hP 0 rfl rfl 9 (by decide) (hts (.fieldLink RX7 42 "HookPier$Reader" "names" "I") (List.mem_of_getElem? (i := 14) rfl)) (fun _ h9 => h9) rfl dX7_takeNewName_50 ?_
        refine lv_lload_n hx hb dX7_takeNewName_53 rfl (lv_at hl 0 rfl) ?_
        obtain ⟨hg54, h⟩ := gA_of h
        refine va_last hx hb hK hP hD hS 2 1 rfl rfl hg54 dX7_takeNewName_54 (fun H locs hP hD hS => ?_)
        have hP : va_P (dC, dI) vwCl (bX7 a0 ur kr (r_r.1, r_r.2.1, r_r.2.2.1, r_r.2.2.2.1, r_r.2.2.2.2.1, r_r.2.2.2.2.2.1, r_r.2.2.2.2.2.2.1, (vp_updL r_r.2.2.2.2.2.2.2.1 (r_r.2.2.2.2.2.2.2.2.2.1).toNatClampNeg o14), r_r.2.2.2.2.2.2.2.2) []) H := hP
        have hD : va_D A (bX7 a0 ur kr (r_r.1, r_r.2.1, r_r.2.2.1, r_r.2.2.2.1, r_r.2.2.2.2.1, r_r.2.2.2.2.2.1, r_r.2.2.2.2.2.2.1, (vp_updL r_r.2.2.2.2.2.2.2.1 (r_r.2.2.2.2.2.2.2.2.2.1).toNatClampNeg o14), r_r.2.2.2.2.2.2.2.2) []) := hD
        refine lv_aload_n hx hb dX7_takeNewName_55 rfl (lv_at hl 1 rfl) ?_
        refine va_get (D := (dC, dI)) (ci := 5) (v := .ref (ur 2)) (C := RX7) (T := TX7) (N := 12) hx hb hts ifX7_takeNewName_X7 hown hK hP 0 rfl rfl 8 (by decide) (hts (.fieldLink RX7 38 "HookPier$Reader" "nameBait" "[I") (List.mem_of_getElem? (i := 16) rfl)) (fun _ h9 => h9) rfl dX7_takeNewName_56 ?_
        refine lv_aload_n hx hb dX7_takeNewName_59 rfl (lv_at hl 1 rfl) ?_
        refine va_get (D := (dC, dI)) (ci := 5) (v := .int r_r.2.2.2.2.2.2.2.2.2.1) (C := RX7) (T := TX7) (N := 12) hx hb hts ifX7_takeNewName_X7 hown hK hP 0 rfl rfl 9 (by decide) (hts (.fieldLink RX7 42 "HookPier$Reader" "names" "I") (List.mem_of_getElem? (i := 14) rfl)) (fun _ h9 => h9) rfl dX7_takeNewName_60 ?_
        refine lv_iload_n hx hb dX7_takeNewName_63 rfl (lv_at hl 2 rfl) ?_
        obtain ⟨hg64, h⟩ := gA_of h
        refine va_iast hx hb hK hP hD hS 3 2 rfl rfl hg64 dX7_takeNewName_64 (fun H locs hP hD hS => ?_)
        have hP : va_P (dC, dI) vwCl (bX7 a0 ur kr (r_r.1, r_r.2.1, r_r.2.2.1, r_r.2.2.2.1, r_r.2.2.2.2.1, r_r.2.2.2.2.2.1, r_r.2.2.2.2.2.2.1, (vp_updL r_r.2.2.2.2.2.2.2.1 (r_r.2.2.2.2.2.2.2.2.2.1).toNatClampNeg o14), (upd r_r.2.2.2.2.2.2.2.2.1 (r_r.2.2.2.2.2.2.2.2.2.1).toNatClampNeg k1), r_r.2.2.2.2.2.2.2.2.2) []) H := hP
        have hD : va_D A (bX7 a0 ur kr (r_r.1, r_r.2.1, r_r.2.2.1, r_r.2.2.2.1, r_r.2.2.2.2.1, r_r.2.2.2.2.2.1, r_r.2.2.2.2.2.2.1, (vp_updL r_r.2.2.2.2.2.2.2.1 (r_r.2.2.2.2.2.2.2.2.2.1).toNatClampNeg o14), (upd r_r.2.2.2.2.2.2.2.2.1 (r_r.2.2.2.2.2.2.2.2.2.1).toNatClampNeg k1), r_r.2.2.2.2.2.2.2.2.2) []) := hD
        refine lv_aload_n hx hb dX7_takeNewName_65 rfl (lv_at hl 1 rfl) ?_
        refine lv_dup hx hb dX7_takeNewName_66 rfl ?_
        refine va_get (D := (dC, dI)) (ci := 5) (v := .int r_r.2.2.2.2.2.2.2.2.2.1) (C := RX7) (T := TX7) (N := 12) hx hb hts ifX7_takeNewName_X7 hown hK hP 0 rfl rfl 9 (by decide) (hts (.fieldLink RX7 42 "HookPier$Reader" "names" "I") (List.mem_of_getElem? (i := 14) rfl)) (fun _ h9 => h9) rfl dX7_takeNewName_67 ?_
        refine lv_iconst (v := 1) hx hb dX7_takeNewName_70 (by decide) ?_
        refine lv_iadd hx hb dX7_takeNewName_71 ?_
        refine va_put (D := (dC, dI)) (ci := 5) (v := .int (r_r.2.2.2.2.2.2.2.2.2.1 + (1 : Int32))) (ty := .int) (C := RX7) (T := TX7) (N := 12) hx hb hts ifX7_takeNewName_X7 tyX7 tyX7_ok nmX7 hown hK hP hD hS 0 rfl rfl 9 (by decide) (hts (.fieldLink RX7 42 "HookPier$Reader" "names" "I") (List.mem_of_getElem? (i := 14) rfl)) (fun _ h9 => h9) rfl (by decide +kernel) rfl rfl (Nat.le_of_ble_eq_true rfl) dX7_takeNewName_72 (fun H locs hP hD hS => ?_)
        have hP : va_P (dC, dI) vwCl (bX7 a0 ur kr (r_r.1, r_r.2.1, r_r.2.2.1, r_r.2.2.2.1, r_r.2.2.2.2.1, r_r.2.2.2.2.2.1, r_r.2.2.2.2.2.2.1, (vp_updL r_r.2.2.2.2.2.2.2.1 (r_r.2.2.2.2.2.2.2.2.2.1).toNatClampNeg o14), (upd r_r.2.2.2.2.2.2.2.2.1 (r_r.2.2.2.2.2.2.2.2.2.1).toNatClampNeg k1), (r_r.2.2.2.2.2.2.2.2.2.1 + (1 : Int32)), r_r.2.2.2.2.2.2.2.2.2.2) []) H := hP
        have hD : va_D A (bX7 a0 ur kr (r_r.1, r_r.2.1, r_r.2.2.1, r_r.2.2.2.1, r_r.2.2.2.2.1, r_r.2.2.2.2.2.1, r_r.2.2.2.2.2.2.1, (vp_updL r_r.2.2.2.2.2.2.2.1 (r_r.2.2.2.2.2.2.2.2.2.1).toNatClampNeg o14), (upd r_r.2.2.2.2.2.2.2.2.1 (r_r.2.2.2.2.2.2.2.2.2.1).toNatClampNeg k1), (r_r.2.2.2.2.2.2.2.2.2.1 + (1 : Int32)), r_r.2.2.2.2.2.2.2.2.2.2) []) := hD
        refine lv_aload_n hx hb dX7_takeNewName_75 rfl (lv_at hl 1 rfl) ?_
        obtain ⟨o76, eo76, h⟩ := bd_of h
        refine cl_v (wc := (bX7 a0 ur kr (r_r.1, r_r.2.1, r_r.2.2.1, r_r.2.2.2.1, r_r.2.2.2.2.1, r_r.2.2.2.2.2.1, r_r.2.2.2.2.2.2.1, (vp_updL r_r.2.2.2.2.2.2.2.1 (r_r.2.2.2.2.2.2.2.2.2.1).toNatClampNeg o14), (upd r_r.2.2.2.2.2.2.2.2.1 (r_r.2.2.2.2.2.2.2.2.2.1).toNatClampNeg k1), (r_r.2.2.2.2.2.2.2.2.2.1 + (1 : Int32)), r_r.2.2.2.2.2.2.2.2.2.2) [])) (wr := []) (va_runV (As := []) (rest := []) ⟨hx, hb, hml, hown, hts⟩ (kfX7_advance l dC dI a0 ur kr (r_r.1, r_r.2.1, r_r.2.2.1, r_r.2.2.2.1, r_r.2.2.2.2.1, r_r.2.2.2.2.2.1, r_r.2.2.2.2.2.2.1, (vp_updL r_r.2.2.2.2.2.2.2.1 (r_r.2.2.2.2.2.2.2.2.2.1).toNatClampNeg o14), (upd r_r.2.2.2.2.2.2.2.2.1 (r_r.2.2.2.2.2.2.2.2.2.1).toNatClampNeg k1), (r_r.2.2.2.2.2.2.2.2.2.1 + (1 : Int32)), r_r.2.2.2.2.2.2.2.2.2.2) H.size o76 eo76) (cwV 0 hts gfX7_takeNewName_4 rfl rfl rfl (by decide +kernel) ⟨(Nat.le_of_ble_eq_true rfl), (Nat.le_of_ble_eq_true rfl)⟩) (PV (hP.sub (ws' := (bX7 a0 ur kr (r_r.1, r_r.2.1, r_r.2.2.1, r_r.2.2.2.1, r_r.2.2.2.2.1, r_r.2.2.2.2.2.1, r_r.2.2.2.2.2.2.1, (vp_updL r_r.2.2.2.2.2.2.2.1 (r_r.2.2.2.2.2.2.2.2.2.1).toNatClampNeg o14), (upd r_r.2.2.2.2.2.2.2.2.1 (r_r.2.2.2.2.2.2.2.2.2.1).toNatClampNeg k1), (r_r.2.2.2.2.2.2.2.2.2.1 + (1 : Int32)), r_r.2.2.2.2.2.2.2.2.2.2) [])) [0, 1, 2, 3] rfl) (hK.sub (tys' := (tX7 kr ([]))) [0, 1, 2] rfl) (hD.sub (ws' := (bX7 a0 ur kr (r_r.1, r_r.2.1, r_r.2.2.1, r_r.2.2.2.1, r_r.2.2.2.2.1, r_r.2.2.2.2.2.1, r_r.2.2.2.2.2.2.1, (vp_updL r_r.2.2.2.2.2.2.2.1 (r_r.2.2.2.2.2.2.2.2.2.1).toNatClampNeg o14), (upd r_r.2.2.2.2.2.2.2.2.1 (r_r.2.2.2.2.2.2.2.2.2.1).toNatClampNeg k1), (r_r.2.2.2.2.2.2.2.2.2.1 + (1 : Int32)), r_r.2.2.2.2.2.2.2.2.2.2) [])) [0, 1, 2, 3] (by decide) rfl) hN 0 rfl rfl) rfl rfl hl.1 rfl (lv_room (Nat.le_of_ble_eq_true rfl)) dX7_takeNewName_76 ⟨(Nat.le_of_ble_eq_true rfl), (Nat.le_of_ble_eq_true rfl)⟩) hP hD hK hS hA [0, 1, 2, 3] [] rfl rfl (by decide) (by decide) (fun _ H locs hw hP hD _ hS => ?_)
        have hP : va_P (dC, dI) vwCl (bX7 a0 ur kr o76 []) H := hP
        have hD : va_D A (bX7 a0 ur kr o76 []) := hD
        refine lv_iconst (v := 1) hx hb dX7_takeNewName_79 (by decide) ?_
        obtain rfl := Option.some.inj h
        have hP9 := hP.sub (ws' := (bX7 a0 ur kr o76 [])) [0, 1, 2, 3] rfl
        have hD9 := hD.sub (ws' := (bX7 a0 ur kr o76 [])) [0, 1, 2, 3] (by decide) rfl
        have hK9 := hK.sub (tys' := []) [] rfl
        rw [hQQ]
        exact W.zret (v := (1 : Int32)) hx hb hr rfl (fun t ht hW => ⟨⟨(1 : Int32), (), rfl, ⟨rfl, (by decide)⟩, by rw [ht]; exact hP9, va_K.moved hW.alike hK9, hD9⟩, hS.F ht⟩) hS.2.2 dX7_takeNewName_80
      · have h := (if_neg c36).symm.trans h
        exact J39  H _ ls h  hP hD hS (lv_sub hl [1] rfl)
  · have h := (if_pos c4).symm.trans h
    refine lv_aload_n hx hb dX7_takeNewName_7 rfl (lv_at hl 0 rfl) ?_
    refine lv_iconst (v := 1) hx hb dX7_takeNewName_8 (by decide) ?_
    obtain ⟨o9, eo9⟩ : ∃ o, o = f_X7_fail (1 : Int32) r_r := ⟨_, rfl⟩
    have h := nm_of h o9 eo9
    refine cl_i (wc := (bX7 a0 ur kr r_r [])) (wr := []) (va_runV (As := [.int 1]) (rest := []) ⟨hx, hb, hml, hown, hts⟩ (kfX7_fail l dC dI a0 (1 : Int32) ur kr r_r H.size o9 eo9.symm) (cwV 1 hts gfX7_takeNewName_3 rfl rfl rfl (by decide +kernel) ⟨(Nat.le_of_ble_eq_true rfl), (Nat.le_of_ble_eq_true rfl)⟩) (PV (hP.sub (ws' := (bX7 a0 ur kr r_r [])) [0, 1, 2, 3] rfl) (hK.sub (tys' := (tX7 kr ([]))) [0, 1, 2] rfl) (hD.sub (ws' := (bX7 a0 ur kr r_r [])) [0, 1, 2, 3] (by decide) rfl) hN 0 rfl rfl) rfl rfl hl.1 rfl (lv_room (Nat.le_of_ble_eq_true rfl)) dX7_takeNewName_9 ⟨(Nat.le_of_ble_eq_true rfl), (Nat.le_of_ble_eq_true rfl)⟩) hP hD hK hS hA [0, 1, 2, 3] [] rfl rfl (by decide) (by decide) (fun r9 _ H locs hw hP hD _ hS => ?_)
    obtain ⟨hw, br9⟩ := hw
    obtain rfl := hw
    have hP : va_P (dC, dI) vwCl (bX7 a0 ur kr o9 []) H := hP
    have hD : va_D A (bX7 a0 ur kr o9 []) := hD
    obtain rfl := Option.some.inj h
    have hP9 := hP.sub (ws' := (bX7 a0 ur kr o9 [])) [0, 1, 2, 3] rfl
    have hD9 := hD.sub (ws' := (bX7 a0 ur kr o9 [])) [0, 1, 2, 3] (by decide) rfl
    have hK9 := hK.sub (tys' := []) [] rfl
    rw [hQQ]
    exact W.zret (v := (0 : Int32)) hx hb hr rfl (fun t ht hW => ⟨⟨(0 : Int32), (), rfl, ⟨rfl, (by decide)⟩, by rw [ht]; exact hP9, va_K.moved hW.alike hK9, hD9⟩, hS.F ht⟩) hS.2.2 dX7_takeNewName_12
