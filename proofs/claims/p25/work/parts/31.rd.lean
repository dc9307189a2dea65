noncomputable def zrX7_isLetter_0 : List ZR := zc 0 true (.aload_n 0) 1 (zc 1 true (.getfield 9) 3 (zc 4 true (.iload_n 1) 1 (zc 5 true (.baload) 1 (zc 6 true (.bipush 97) 2 (zc 8 true (.if_icmp .lt 18) 3 (zc 11 true (.aload_n 0) 1 (zc 12 true (.getfield 9) 3 (zc 15 true (.iload_n 1) 1 (zc 16 true (.baload) 1 (zc 17 true (.bipush 122) 2 (zc 19 true (.if_icmp .gt 7) 3 (zc 22 true (.iconst 1) 1 (zc 23 true (.goto 4) 3 (zc 26 true (.iconst 0) 1 (zc 27 true (.ireturn) 1 ([]))))))))))))))))
theorem zrX7_isLetter_0_ok : zck 0 ((zby cX7_isLetter).drop 0) zrX7_isLetter_0 = true := by decide +kernel
def vfX7_isLetter : List Cond := List.cons (.code yX7_isLetter cX7_isLetter 2 (some .boolean)) (apW [.fieldLink RX7 9 "HookPier$Reader" "text" "[B"] (wsX70))
theorem ifX7_isLetter_X7 : ∀ w ∈ wsX70, w ∈ vfX7_isLetter := fun _ h => (List.mem_cons_of_mem _ (List.mem_append_right _ h))
theorem qfX7_isLetter : Good vfX7_isLetter := gd_cons (by decide +kernel) (gd_app (gd_dec (by decide +kernel) : Good [.fieldLink RX7 9 "HookPier$Reader" "text" "[B"]) qsX7)
set_option maxHeartbeats 2000000 in
set_option maxRecDepth 100000 in
theorem kfX7_isLetter (l : Launch) (dC : Nat → ClassId) (dI : Nat → Nat → Nat) (a0 : Nat) (k1 : Int32) (ur : Nat → Nat) (kr : Nat → ClassId) (r_r : TX7_r) (sz : Nat) (out : Int32) (h : f_X7_isLetter k1 r_r = some out) : KDi l yX7_isLetter vfX7_isLetter ({ frames := 0, cells := 0, slots := 0, locals := 0 }) (dC, dI) [.ref a0, .int k1] sz (bX7 a0 ur kr r_r []) (tX7 kr ([])) (fun (r : Int32) _ => r = out ∧ (0 ≤ r.toInt ∧ r.toInt ≤ 1)) 0 0 := by
  refine Met.ofW (cc := cX7_isLetter) (maxL := 2) (ret := (some .boolean)) (by decide) rfl ?_
  intro p e s m args below meth c s₁ B0 hml hv
  obtain ⟨rfl, hsz, hP, hK, hD0, hN⟩ := hv
  have hx := B0.exec
  have hb := B0.bytes
  have hr := B0.returns
  have hts := atoms_spec (ws := vfX7_isLetter) B0.pre
  have hown : s.vm.findClass RX7 = some m.cls := findClass_of_methodNamed B0.named
  have hlocks := B0.notSynchronized
  subst hsz
  have hD := hD0.self (sz := s.heap.size)
  generalize hAe : va_A (bX7 a0 ur kr r_r []) s.heap.size = A at hD ⊢
  have hA : ∀ q : Nat, s.heap.size ≤ q → A q := fun q h => by rw [← hAe]; exact Or.inr h
  have hS : va_S A s.heap s.heap [] := va_S.rf
  have hP : va_P (dC, dI) vwCl (bX7 a0 ur kr r_r []) s.heap := hP
  have hl := lv_entry ([.ref a0, .int k1]) (n := 2) (Nat.le_of_ble_eq_true rfl)
  rw [lg_entry_eq]
  generalize (lg_sl ([.ref a0, .int k1]) ++ List.replicate (2 - (lg_sl ([.ref a0, .int k1])).length) Slot.unset).toArray = ls at hl ⊢
  have hl : lv_has ls 2 [(0, .ref a0), (1, .int k1)] := hl
  refine W_q (fun QQ hQQ => ?_)
  rw [f_X7_isLetter] at h
  refine lv_aload_n hx hb (zat zrX7_isLetter_0_ok 0 rfl) rfl (lv_at hl 0 rfl) ?_
  refine va_get (D := (dC, dI)) (ci := 5) (v := .ref (ur 0)) (C := RX7) (T := TX7) (N := 12) hx hb hts ifX7_isLetter_X7 hown hK hP 0 rfl rfl 0 (by decide) (hts (.fieldLink RX7 9 "HookPier$Reader" "text" "[B") (List.mem_of_getElem? (i := 1) rfl)) (fun _ h9 => h9) rfl (zat zrX7_isLetter_0_ok 1 rfl) ?_
  refine lv_iload_n hx hb (zat zrX7_isLetter_0_ok 2 rfl) rfl (lv_at hl 1 rfl) ?_
  obtain ⟨hg5, h⟩ := gA_of h
  refine va_bald hx hb hK hP 1 0 rfl rfl hg5 (zat zrX7_isLetter_0_ok 3 rfl) ?_
  refine lv_bipush (v := 97) hx hb (zat zrX7_isLetter_0_ok 4 rfl) (by decide) ?_
  refine lv_icmp_lt (tgt := 26) hx hb (zat zrX7_isLetter_0_ok 5 rfl) (by decide) (fun c8 => ?_) (fun c8 => ?_)
  · have h := (if_pos c8).symm.trans h
    refine lv_iconst (v := 0) hx hb (zat zrX7_isLetter_0_ok 14 rfl) (by decide) ?_
    obtain rfl := Option.some.inj h
    obtain ⟨hP9, hD9⟩ := pd_sub (bX7 a0 ur kr r_r []) [0, 1, 2, 3] hP hD (by decide) rfl
    have hK9 := hK.sub (tys' := []) [] rfl
    rw [hQQ]
    exact W.zret (v := (0 : Int32)) hx hb hr rfl (fun t ht hW => ⟨⟨(0 : Int32), (), rfl, ⟨rfl, (by decide)⟩, by rw [ht]; exact hP9, va_K.moved hW.alike hK9, hD9⟩, hS.F ht⟩) hS.2.2 (zat zrX7_isLetter_0_ok 15 rfl)
  · have h := (if_neg c8).symm.trans h
    refine lv_aload_n hx hb (zat zrX7_isLetter_0_ok 6 rfl) rfl (lv_at hl 0 rfl) ?_
    refine va_get (D := (dC, dI)) (ci := 5) (v := .ref (ur 0)) (C := RX7) (T := TX7) (N := 12) hx hb hts ifX7_isLetter_X7 hown hK hP 0 rfl rfl 0 (by decide) (hts (.fieldLink RX7 9 "HookPier$Reader" "text" "[B") (List.mem_of_getElem? (i := 1) rfl)) (fun _ h9 => h9) rfl (zat zrX7_isLetter_0_ok 7 rfl) ?_
    refine lv_iload_n hx hb (zat zrX7_isLetter_0_ok 8 rfl) rfl (lv_at hl 1 rfl) ?_
    obtain ⟨hg16, h⟩ := gA_of h
    refine va_bald hx hb hK hP 1 0 rfl rfl hg16 (zat zrX7_isLetter_0_ok 9 rfl) ?_
    refine lv_bipush (v := 122) hx hb (zat zrX7_isLetter_0_ok 10 rfl) (by decide) ?_
    refine lv_icmp_gt (tgt := 26) hx hb (zat zrX7_isLetter_0_ok 11 rfl) (by decide) (fun c19 => ?_) (fun c19 => ?_)
    · have h := (if_pos c19).symm.trans h
      refine lv_iconst (v := 0) hx hb (zat zrX7_isLetter_0_ok 14 rfl) (by decide) ?_
      obtain rfl := Option.some.inj h
      obtain ⟨hP9, hD9⟩ := pd_sub (bX7 a0 ur kr r_r []) [0, 1, 2, 3] hP hD (by decide) rfl
      have hK9 := hK.sub (tys' := []) [] rfl
      rw [hQQ]
      exact W.zret (v := (0 : Int32)) hx hb hr rfl (fun t ht hW => ⟨⟨(0 : Int32), (), rfl, ⟨rfl, (by decide)⟩, by rw [ht]; exact hP9, va_K.moved hW.alike hK9, hD9⟩, hS.F ht⟩) hS.2.2 (zat zrX7_isLetter_0_ok 15 rfl)
    · have h := (if_neg c19).symm.trans h
      refine lv_iconst (v := 1) hx hb (zat zrX7_isLetter_0_ok 12 rfl) (by decide) ?_
      refine lv_goto (tgt := 27) hx hb (zat zrX7_isLetter_0_ok 13 rfl) (by decide) ?_
      obtain rfl := Option.some.inj h
      obtain ⟨hP9, hD9⟩ := pd_sub (bX7 a0 ur kr r_r []) [0, 1, 2, 3] hP hD (by decide) rfl
      have hK9 := hK.sub (tys' := []) [] rfl
      rw [hQQ]
      exact W.zret (v := (1 : Int32)) hx hb hr rfl (fun t ht hW => ⟨⟨(1 : Int32), (), rfl, ⟨rfl, (by decide)⟩, by rw [ht]; exact hP9, va_K.moved hW.alike hK9, hD9⟩, hS.F ht⟩) hS.2.2 (zat zrX7_isLetter_0_ok 15 rfl)
noncomputable def zrX7_isDigit_0 : List ZR := zc 0 true (.aload_n 0) 1 (zc 1 true (.getfield 9) 3 (zc 4 true (.iload_n 1) 1 (zc 5 true (.baload) 1 (zc 6 true (.bipush 48) 2 (zc 8 true (.if_icmp .lt 18) 3 (zc 11 true (.aload_n 0) 1 (zc 12 true (.getfield 9) 3 (zc 15 true (.iload_n 1) 1 (zc 16 true (.baload) 1 (zc 17 true (.bipush 57) 2 (zc 19 true (.if_icmp .gt 7) 3 (zc 22 true (.iconst 1) 1 (zc 23 true (.goto 4) 3 (zc 26 true (.iconst 0) 1 (zc 27 true (.ireturn) 1 ([]))))))))))))))))
theorem zrX7_isDigit_0_ok : zck 0 ((zby cX7_isDigit).drop 0) zrX7_isDigit_0 = true := by decide +kernel
def vfX7_isDigit : List Cond := List.cons (.code yX7_isDigit cX7_isDigit 2 (some .boolean)) (apW [.fieldLink RX7 9 "HookPier$Reader" "text" "[B"] (wsX70))
theorem ifX7_isDigit_X7 : ∀ w ∈ wsX70, w ∈ vfX7_isDigit := fun _ h => (List.mem_cons_of_mem _ (List.mem_append_right _ h))
theorem qfX7_isDigit : Good vfX7_isDigit := gd_cons (by decide +kernel) (gd_app (gd_dec (by decide +kernel) : Good [.fieldLink RX7 9 "HookPier$Reader" "text" "[B"]) qsX7)
set_option maxHeartbeats 2000000 in
set_option maxRecDepth 100000 in
theorem kfX7_isDigit (l : Launch) (dC : Nat → ClassId) (dI : Nat → Nat → Nat) (a0 : Nat) (k1 : Int32) (ur : Nat → Nat) (kr : Nat → ClassId) (r_r : TX7_r) (sz : Nat) (out : Int32) (h : f_X7_isDigit k1 r_r = some out) : KDi l yX7_isDigit vfX7_isDigit ({ frames := 0, cells := 0, slots := 0, locals := 0 }) (dC, dI) [.ref a0, .int k1] sz (bX7 a0 ur kr r_r []) (tX7 kr ([])) (fun (r : Int32) _ => r = out ∧ (0 ≤ r.toInt ∧ r.toInt ≤ 1)) 0 0 := by
  refine Met.ofW (cc := cX7_isDigit) (maxL := 2) (ret := (some .boolean)) (by decide) rfl ?_
  intro p e s m args below meth c s₁ B0 hml hv
  obtain ⟨rfl, hsz, hP, hK, hD0, hN⟩ := hv
  have hx := B0.exec
  have hb := B0.bytes
  have hr := B0.returns
  have hts := atoms_spec (ws := vfX7_isDigit) B0.pre
  have hown : s.vm.findClass RX7 = some m.cls := findClass_of_methodNamed B0.named
  have hlocks := B0.notSynchronized
  subst hsz
  have hD := hD0.self (sz := s.heap.size)
  generalize hAe : va_A (bX7 a0 ur kr r_r []) s.heap.size = A at hD ⊢
  have hA : ∀ q : Nat, s.heap.size ≤ q → A q := fun q h => by rw [← hAe]; exact Or.inr h
  have hS : va_S A s.heap s.heap [] := va_S.rf
  have hP : va_P (dC, dI) vwCl (bX7 a0 ur kr r_r []) s.heap := hP
  have hl := lv_entry ([.ref a0, .int k1]) (n := 2) (Nat.le_of_ble_eq_true rfl)
  rw [lg_entry_eq]
  generalize (lg_sl ([.ref a0, .int k1]) ++ List.replicate (2 - (lg_sl ([.ref a0, .int k1])).length) Slot.unset).toArray = ls at hl ⊢
  have hl : lv_has ls 2 [(0, .ref a0), (1, .int k1)] := hl
  refine W_q (fun QQ hQQ => ?_)
  rw [f_X7_isDigit] at h
  refine lv_aload_n hx hb (zat zrX7_isDigit_0_ok 0 rfl) rfl (lv_at hl 0 rfl) ?_
  refine va_get (D := (dC, dI)) (ci := 5) (v := .ref (ur 0)) (C := RX7) (T := TX7) (N := 12) hx hb hts ifX7_isDigit_X7 hown hK hP 0 rfl rfl 0 (by decide) (hts (.fieldLink RX7 9 "HookPier$Reader" "text" "[B") (List.mem_of_getElem? (i := 1) rfl)) (fun _ h9 => h9) rfl (zat zrX7_isDigit_0_ok 1 rfl) ?_
  refine lv_iload_n hx hb (zat zrX7_isDigit_0_ok 2 rfl) rfl (lv_at hl 1 rfl) ?_
  obtain ⟨hg5, h⟩ := gA_of h
  refine va_bald hx hb hK hP 1 0 rfl rfl hg5 (zat zrX7_isDigit_0_ok 3 rfl) ?_
  refine lv_bipush (v := 48) hx hb (zat zrX7_isDigit_0_ok 4 rfl) (by decide) ?_
  refine lv_icmp_lt (tgt := 26) hx hb (zat zrX7_isDigit_0_ok 5 rfl) (by decide) (fun c8 => ?_) (fun c8 => ?_)
  · have h := (if_pos c8).symm.trans h
    refine lv_iconst (v := 0) hx hb (zat zrX7_isDigit_0_ok 14 rfl) (by decide) ?_
    obtain rfl := Option.some.inj h
    obtain ⟨hP9, hD9⟩ := pd_sub (bX7 a0 ur kr r_r []) [0, 1, 2, 3] hP hD (by decide) rfl
    have hK9 := hK.sub (tys' := []) [] rfl
    rw [hQQ]
    exact W.zret (v := (0 : Int32)) hx hb hr rfl (fun t ht hW => ⟨⟨(0 : Int32), (), rfl, ⟨rfl, (by decide)⟩, by rw [ht]; exact hP9, va_K.moved hW.alike hK9, hD9⟩, hS.F ht⟩) hS.2.2 (zat zrX7_isDigit_0_ok 15 rfl)
  · have h := (if_neg c8).symm.trans h
    refine lv_aload_n hx hb (zat zrX7_isDigit_0_ok 6 rfl) rfl (lv_at hl 0 rfl) ?_
    refine va_get (D := (dC, dI)) (ci := 5) (v := .ref (ur 0)) (C := RX7) (T := TX7) (N := 12) hx hb hts ifX7_isDigit_X7 hown hK hP 0 rfl rfl 0 (by decide) (hts (.fieldLink RX7 9 "HookPier$Reader" "text" "[B") (List.mem_of_getElem? (i := 1) rfl)) (fun _ h9 => h9) rfl (zat zrX7_isDigit_0_ok 7 rfl) ?_
    refine lv_iload_n hx hb (zat zrX7_isDigit_0_ok 8 rfl) rfl (lv_at hl 1 rfl) ?_
    obtain ⟨hg16, h⟩ := gA_of h
    refine va_bald hx hb hK hP 1 0 rfl rfl hg16 (zat zrX7_isDigit_0_ok 9 rfl) ?_
    refine lv_bipush (v := 57) hx hb (zat zrX7_isDigit_0_ok 10 rfl) (by decide) ?_
    refine lv_icmp_gt (tgt := 26) hx hb (zat zrX7_isDigit_0_ok 11 rfl) (by decide) (fun c19 => ?_) (fun c19 => ?_)
    · have h := (if_pos c19).symm.trans h
      refine lv_iconst (v := 0) hx hb (zat zrX7_isDigit_0_ok 14 rfl) (by decide) ?_
      obtain rfl := Option.some.inj h
      obtain ⟨hP9, hD9⟩ := pd_sub (bX7 a0 ur kr r_r []) [0, 1, 2, 3] hP hD (by decide) rfl
      have hK9 := hK.sub (tys' := []) [] rfl
      rw [hQQ]
      exact W.zret (v := (0 : Int32)) hx hb hr rfl (fun t ht hW => ⟨⟨(0 : Int32), (), rfl, ⟨rfl, (by decide)⟩, by rw [ht]; exact hP9, va_K.moved hW.alike hK9, hD9⟩, hS.F ht⟩) hS.2.2 (zat zrX7_isDigit_0_ok 15 rfl)
    · have h := (if_neg c19).symm.trans h
      refine lv_iconst (v := 1) hx hb (zat zrX7_isDigit_0_ok 12 rfl) (by decide) ?_
      refine lv_goto (tgt := 27) hx hb (zat zrX7_isDigit_0_ok 13 rfl) (by decide) ?_
      obtain rfl := Option.some.inj h
      obtain ⟨hP9, hD9⟩ := pd_sub (bX7 a0 ur kr r_r []) [0, 1, 2, 3] hP hD (by decide) rfl
      have hK9 := hK.sub (tys' := []) [] rfl
      rw [hQQ]
      exact W.zret (v := (1 : Int32)) hx hb hr rfl (fun t ht hW => ⟨⟨(1 : Int32), (), rfl, ⟨rfl, (by decide)⟩, by rw [ht]; exact hP9, va_K.moved hW.alike hK9, hD9⟩, hS.F ht⟩) hS.2.2 (zat zrX7_isDigit_0_ok 15 rfl)
noncomputable def zrX7_advance_0 : List ZR := zc 0 true (.aload_n 0) 1 (zc 1 true (.aload_n 0) 1 (zc 2 true (.getfield 28) 3 (zc 5 true (.putfield 25) 3 (zc 8 true (.aload_n 0) 1 (zc 9 true (.getfield 25) 3 (zc 12 true (.aload_n 0) 1 (zc 13 true (.getfield 19) 3 (zc 16 true (.if_icmp .ge 30) 3 (zc 19 true (.aload_n 0) 1 (zc 20 true (.getfield 9) 3 (zc 23 true (.aload_n 0) 1 (zc 24 true (.getfield 25) 3 (zc 27 true (.baload) 1 (zc 28 true (.bipush 32) 2 (zc 30 true (.if_icmp .ne 16) 3 (zc 33 true (.aload_n 0) 1 (zc 34 true (.dup) 1 (zc 35 true (.getfield 25) 3 (zc 38 true (.iconst 1) 1 (zc 39 true (.iadd) 1 (zc 40 true (.putfield 25) 3 (zc 43 true (.goto (-35)) 3 (zc 46 true (.aload_n 0) 1 (zc 47 true (.aload_n 0) 1 (zc 48 true (.getfield 25) 3 (zc 51 true (.putfield 28) 3 (zc 54 true (.aload_n 0) 1 (zc 55 true (.getfield 25) 3 (zc 58 true (.aload_n 0) 1 (zc 59 true (.getfield 19) 3 (zc 62 true (.if_icmp .lt 11) 3 (zc 65 true (.aload_n 0) 1 (zc 66 true (.iconst 0) 1 (zc 67 true (.putfield 22) 3 (zc 70 true (.goto 179) 3 (zc 73 true (.aload_n 0) 1 (zc 74 true (.aload_n 0) 1 (zc 75 true (.getfield 25) 3 (zc 78 true (.invokevirtual 245) 3 (zc 81 true (.ifCond .eq 64) 3 (zc 84 true (.aload_n 0) 1 (zc 85 true (.getfield 28) 3 (zc 88 true (.aload_n 0) 1 (zc 89 true (.getfield 19) 3 (zc 92 true (.if_icmp .ge 27) 3 (zc 95 true (.aload_n 0) 1 (zc 96 true (.aload_n 0) 1 (zc 97 true (.getfield 28) 3 (zc 100 true (.invokevirtual 245) 3 (zc 103 true (.ifCond .eq 16) 3 (zc 106 true (.aload_n 0) 1 (zc 107 true (.dup) 1 (zc 108 true (.getfield 28) 3 (zc 111 true (.iconst 1) 1 (zc 112 true (.iadd) 1 (zc 113 true (.putfield 28) 3 (zc 116 true (.goto (-32)) 3 (zc 119 true (.aload_n 0) 1 (zc 120 true (.aload_n 0) 1 (zc 121 true (.getfield 28) 3 (zc 124 true (.aload_n 0) 1 (zc 125 true (.getfield 25) 3 (zc 128 true (.isub) 1 ([]))))))))))))))))))))))))))))))))))))))))))))))))))))))))))))))))
theorem zrX7_advance_0_ok : zck 0 ((zby cX7_advance).drop 0) zrX7_advance_0 = true := by decide +kernel
noncomputable def zrX7_advance_1 : List ZR := zc 129 true (.bipush 8) 2 (zc 131 true (.if_icmp .gt 7) 3 (zc 134 true (.iconst 1) 1 (zc 135 true (.goto 4) 3 (zc 138 true (.iconst 4) 1 (zc 139 true (.putfield 22) 3 (zc 142 true (.goto 107) 3 (zc 145 true (.aload_n 0) 1 (zc 146 true (.aload_n 0) 1 (zc 147 true (.getfield 25) 3 (zc 150 true (.invokevirtual 248) 3 (zc 153 true (.ifCond .eq 63) 3 (zc 156 true (.aload_n 0) 1 (zc 157 true (.getfield 28) 3 (zc 160 true (.aload_n 0) 1 (zc 161 true (.getfield 19) 3 (zc 164 true (.if_icmp .ge 27) 3 (zc 167 true (.aload_n 0) 1 (zc 168 true (.aload_n 0) 1 (zc 169 true (.getfield 28) 3 (zc 172 true (.invokevirtual 248) 3 (zc 175 true (.ifCond .eq 16) 3 (zc 178 true (.aload_n 0) 1 (zc 179 true (.dup) 1 (zc 180 true (.getfield 28) 3 (zc 183 true (.iconst 1) 1 (zc 184 true (.iadd) 1 (zc 185 true (.putfield 28) 3 (zc 188 true (.goto (-32)) 3 (zc 191 true (.aload_n 0) 1 (zc 192 true (.aload_n 0) 1 (zc 193 true (.getfield 28) 3 (zc 196 true (.aload_n 0) 1 (zc 197 true (.getfield 25) 3 (zc 200 true (.isub) 1 (zc 201 true (.iconst 2) 1 (zc 202 true (.if_icmp .gt 7) 3 (zc 205 true (.iconst 2) 1 (zc 206 true (.goto 4) 3 (zc 209 true (.iconst 4) 1 (zc 210 true (.putfield 22) 3 (zc 213 true (.goto 36) 3 (zc 216 true (.aload_n 0) 1 (zc 217 true (.aload_n 0) 1 (zc 218 true (.getfield 9) 3 (zc 221 true (.aload_n 0) 1 (zc 222 true (.getfield 25) 3 (zc 225 true (.baload) 1 (zc 226 true (.bipush 59) 2 (zc 228 true (.if_icmp .ne 7) 3 (zc 231 true (.iconst 3) 1 (zc 232 true (.goto 4) 3 (zc 235 true (.iconst 4) 1 (zc 236 true (.putfield 22) 3 (zc 239 true (.aload_n 0) 1 (zc 240 true (.dup) 1 (zc 241 true (.getfield 28) 3 (zc 244 true (.iconst 1) 1 (zc 245 true (.iadd) 1 (zc 246 true (.putfield 28) 3 (zc 249 true (.return_) 1 ([])))))))))))))))))))))))))))))))))))))))))))))))))))))))))))))
theorem zrX7_advance_1_ok : zck 129 ((zby cX7_advance).drop 129) zrX7_advance_1 = true := by decide +kernel
def vfX7_advance : List Cond := List.cons (.code yX7_advance cX7_advance 1 none) (apW [.fieldLink RX7 28 "HookPier$Reader" "behind" "I", .fieldLink RX7 25 "HookPier$Reader" "start" "I", .fieldLink RX7 19 "HookPier$Reader" "end" "I", .methodLink RX7 245 yX7_isLetter, .instanceMethod yX7_isLetter, .selects RX7 yX7_isLetter yX7_isLetter, .initialized RX7, .fieldLink RX7 22 "HookPier$Reader" "token" "I", .methodLink RX7 248 yX7_isDigit, .instanceMethod yX7_isDigit, .selects RX7 yX7_isDigit yX7_isDigit, .fieldLink RX7 9 "HookPier$Reader" "text" "[B"] (apW wsX70 (apW vfX7_isLetter (vfX7_isDigit))))
theorem ifX7_advance_X7 : ∀ w ∈ wsX70, w ∈ vfX7_advance := fun _ h => (List.mem_cons_of_mem _ (List.mem_append_right _ (List.mem_append_left _ h)))
theorem qfX7_advance : Good vfX7_advance := gd_cons (by decide +kernel) (gd_app (gd_dec (by decide +kernel) : Good [.fieldLink RX7 28 "HookPier$Reader" "behind" "I", .fieldLink RX7 25 "HookPier$Reader" "start" "I", .fieldLink RX7 19 "HookPier$Reader" "end" "I", .methodLink RX7 245 yX7_isLetter, .instanceMethod yX7_isLetter, .selects RX7 yX7_isLetter yX7_isLetter, .initialized RX7, .fieldLink RX7 22 "HookPier$Reader" "token" "I", .methodLink RX7 248 yX7_isDigit, .instanceMethod yX7_isDigit, .selects RX7 yX7_isDigit yX7_isDigit, .fieldLink RX7 9 "HookPier$Reader" "text" "[B"]) (gd_app qsX7 (gd_app qfX7_isLetter qfX7_isDigit)))
theorem gfX7_advance_0 : GoodIn vfX7_advance (wsV RX7 245 RX7 yX7_isLetter vfX7_isLetter) := goodIn_app (goodIn_r [.methodLink RX7 245 yX7_isLetter, .instanceMethod yX7_isLetter, .selects RX7 yX7_isLetter yX7_isLetter, .initialized RX7] [4, 5, 6, 7] rfl (by decide +kernel)) (goodIn_m (fun _ h => (List.mem_cons_of_mem _ (List.mem_append_right _ (List.mem_append_right _ (List.mem_append_left _ h))))) qfX7_isLetter)
theorem gfX7_advance_1 : GoodIn vfX7_advance (wsV RX7 248 RX7 yX7_isDigit vfX7_isDigit) := goodIn_app (goodIn_r [.methodLink RX7 248 yX7_isDigit, .instanceMethod yX7_isDigit, .selects RX7 yX7_isDigit yX7_isDigit, .initialized RX7] [9, 10, 11, 7] rfl (by decide +kernel)) (goodIn_m (fun _ h => (List.mem_cons_of_mem _ (List.mem_append_right _ (List.mem_append_right _ (List.mem_append_right _ h))))) qfX7_isDigit)
set_option maxHeartbeats 2000000 in
set_option maxRecDepth 100000 in
theorem kfX7_advance (l : Launch) (dC : Nat → ClassId) (dI : Nat → Nat → Nat) (a0 : Nat) (ur : Nat → Nat) (kr : Nat → ClassId) (r_r : TX7_r) (sz : Nat) (out : TX7_r) (h : f_X7_advance r_r = some out) : KCv l yX7_advance vfX7_advance ({ frames := 1, cells := 0, slots := 0, locals := 21 }) (dC, dI) [.ref a0] sz (bX7 a0 ur kr r_r []) (tX7 kr ([])) (fun _ => True) (bX7 a0 ur kr out []) 0 0 := by
  refine Met.ofW (cc := cX7_advance) (maxL := 1) (ret := none) (by decide) rfl ?_
  intro p e s m args below meth c s₁ B0 hml hv
  obtain ⟨rfl, hsz, hP, hK, hD0, hN⟩ := hv
  have hx := B0.exec
  have hb := B0.bytes
  have hr := B0.returns
  have hts := atoms_spec (ws := vfX7_advance) B0.pre
  have hown : s.vm.findClass RX7 = some m.cls := findClass_of_methodNamed B0.named
  have hlocks := B0.notSynchronized
  subst hsz
  have hD := hD0.self (sz := s.heap.size)
  generalize hAe : va_A (bX7 a0 ur kr r_r []) s.heap.size = A at hD ⊢
  have hA : ∀ q : Nat, s.heap.size ≤ q → A q := fun q h => by rw [← hAe]; exact Or.inr h
  have hS : va_S A s.heap s.heap [] := va_S.rf
  have hP : va_P (dC, dI) vwCl (bX7 a0 ur kr r_r []) s.heap := hP
  have hl := lv_entry ([.ref a0]) (n := 1) (Nat.le_of_ble_eq_true rfl)
  rw [lg_entry_eq]
  generalize (lg_sl ([.ref a0]) ++ List.replicate (1 - (lg_sl ([.ref a0])).length) Slot.unset).toArray = ls at hl ⊢
  have hl : lv_has ls 1 [(0, .ref a0)] := hl
  refine W_q (fun QQ hQQ => ?_)
  rw [f_X7_advance] at h
  refine lv_aload_n hx hb (zat zrX7_advance_0_ok 0 rfl) rfl (lv_at hl 0 rfl) ?_
  refine lv_aload_n hx hb (zat zrX7_advance_0_ok 1 rfl) rfl (lv_at hl 0 rfl) ?_
  refine va_get (D := (dC, dI)) (ci := 5) (v := .int r_r.2.2.2.2.2.1) (C := RX7) (T := TX7) (N := 12) hx hb hts ifX7_advance_X7 hown hK hP 0 rfl rfl 5 (by decide) (hts (.fieldLink RX7 28 "HookPier$Reader" "behind" "I") (List.mem_of_getElem? (i := 1) rfl)) (fun _ h9 => h9) rfl (zat zrX7_advance_0_ok 2 rfl) ?_
  refine va_put (D := (dC, dI)) (ci := 5) (v := .int r_r.2.2.2.2.2.1) (ty := .int) (C := RX7) (T := TX7) (N := 12) hx hb hts ifX7_advance_X7 tyX7 tyX7_ok nmX7 hown hK hP hD hS 0 rfl rfl 4 (by decide) (hts (.fieldLink RX7 25 "HookPier$Reader" "start" "I") (List.mem_of_getElem? (i := 2) rfl)) (fun _ h9 => h9) rfl (by decide +kernel) rfl rfl (Nat.le_of_ble_eq_true rfl) (zat zrX7_advance_0_ok 3 rfl) (fun H locs hP hD hS => ?_)
  obtain ⟨hP, hD⟩ := pd_mk (bX7 a0 ur kr (r_r.1, r_r.2.1, r_r.2.2.1, r_r.2.2.2.1, r_r.2.2.2.2.2.1, r_r.2.2.2.2.2) []) hP hD
  have L8 : ∀ (n8 : Nat) (v8_r_r : TX7_r) (H : Heap) (locs : List Loc) (ls : Array Slot), f_X7_advance_L8 n8 v8_r_r = some out → va_P (dC, dI) vwCl (bX7 a0 ur kr v8_r_r []) H → va_D A (bX7 a0 ur kr v8_r_r []) → va_S A s.heap H locs → lv_has ls 1 [(0, .ref a0)] → W p l e (headSpec vfX7_advance { frames := 1, cells := 0, slots := 0, locals := 21 }).room s m ([.ref a0]).toArray below meth c H locs 0 0 QQ (F0 m 8 ls []) := by
    intro n8
    induction n8 with
    | zero =>
      intro v8_r_r H locs ls h  _ _ _ _
      rw [f_X7_advance_L8] at h
      cases h
    | succ n8 ih8 =>
      intro v8_r_r H locs ls h  hP hD hS hl
      rw [f_X7_advance_L8] at h
      refine lv_aload_n hx hb (zat zrX7_advance_0_ok 4 rfl) rfl (lv_at hl 0 rfl) ?_
      refine va_get (D := (dC, dI)) (ci := 5) (v := .int v8_r_r.2.2.2.2.1) (C := RX7) (T := TX7) (N := 12) hx hb hts ifX7_advance_X7 hown hK hP 0 rfl rfl 4 (by decide) (hts (.fieldLink RX7 25 "HookPier$Reader" "start" "I") (List.mem_of_getElem? (i := 2) rfl)) (fun _ h9 => h9) rfl (zat zrX7_advance_0_ok 5 rfl) ?_
      refine lv_aload_n hx hb (zat zrX7_advance_0_ok 6 rfl) rfl (lv_at hl 0 rfl) ?_
      refine va_get (D := (dC, dI)) (ci := 5) (v := .int v8_r_r.2.2.1) (C := RX7) (T := TX7) (N := 12) hx hb hts ifX7_advance_X7 hown hK hP 0 rfl rfl 2 (by decide) (hts (.fieldLink RX7 19 "HookPier$Reader" "end" "I") (List.mem_of_getElem? (i := 3) rfl)) (fun _ h9 => h9) rfl (zat zrX7_advance_0_ok 7 rfl) ?_
      have J46 : ∀ (H : Heap) (locs : List Loc) (ls : Array Slot), f_X7_advance_J46 v8_r_r = some out → va_P (dC, dI) vwCl (bX7 a0 ur kr v8_r_r []) H → va_D A (bX7 a0 ur kr v8_r_r []) → va_S A s.heap H locs → lv_has ls 1 [(0, .ref a0)] → W p l e (headSpec vfX7_advance { frames := 1, cells := 0, slots := 0, locals := 21 }).room s m ([.ref a0]).toArray below meth c H locs 0 0 QQ (F0 m 46 ls []) := by
        intro  H locs ls h  hP hD hS hl
        rw [f_X7_advance_J46] at h
        refine lv_aload_n hx hb (zat zrX7_advance_0_ok 23 rfl) rfl (lv_at hl 0 rfl) ?_
        refine lv_aload_n hx hb (zat zrX7_advance_0_ok 24 rfl) rfl (lv_at hl 0 rfl) ?_
        refine va_get (D := (dC, dI)) (ci := 5) (v := .int v8_r_r.2.2.2.2.1) (C := RX7) (T := TX7) (N := 12) hx hb hts ifX7_advance_X7 hown hK hP 0 rfl rfl 4 (by decide) (hts (.fieldLink RX7 25 "HookPier$Reader" "start" "I") (List.mem_of_getElem? (i := 2) rfl)) (fun _ h9 => h9) rfl (zat zrX7_advance_0_ok 25 rfl) ?_
        refine va_put (D := (dC, dI)) (ci := 5) (v := .int v8_r_r.2.2.2.2.1) (ty := .int) (C := RX7) (T := TX7) (N := 12) hx hb hts ifX7_advance_X7 tyX7 tyX7_ok nmX7 hown hK hP hD hS 0 rfl rfl 5 (by decide) (hts (.fieldLink RX7 28 "HookPier$Reader" "behind" "I") (List.mem_of_getElem? (i := 1) rfl)) (fun _ h9 => h9) rfl (by decide +kernel) rfl rfl (Nat.le_of_ble_eq_true rfl) (zat zrX7_advance_0_ok 26 rfl) (fun H locs hP hD hS => ?_)
        obtain ⟨hP, hD⟩ := pd_mk (bX7 a0 ur kr (v8_r_r.1, v8_r_r.2.1, v8_r_r.2.2.1, v8_r_r.2.2.2.1, v8_r_r.2.2.2.2.1, v8_r_r.2.2.2.2.1, v8_r_r.2.2.2.2.2.2) []) hP hD
        refine lv_aload_n hx hb (zat zrX7_advance_0_ok 27 rfl) rfl (lv_at hl 0 rfl) ?_
        refine va_get (D := (dC, dI)) (ci := 5) (v := .int v8_r_r.2.2.2.2.1) (C := RX7) (T := TX7) (N := 12) hx hb hts ifX7_advance_X7 hown hK hP 0 rfl rfl 4 (by decide) (hts (.fieldLink RX7 25 "HookPier$Reader" "start" "I") (List.mem_of_getElem? (i := 2) rfl)) (fun _ h9 => h9) rfl (zat zrX7_advance_0_ok 28 rfl) ?_
        refine lv_aload_n hx hb (zat zrX7_advance_0_ok 29 rfl) rfl (lv_at hl 0 rfl) ?_
        refine va_get (D := (dC, dI)) (ci := 5) (v := .int v8_r_r.2.2.1) (C := RX7) (T := TX7) (N := 12) hx hb hts ifX7_advance_X7 hown hK hP 0 rfl rfl 2 (by decide) (hts (.fieldLink RX7 19 "HookPier$Reader" "end" "I") (List.mem_of_getElem? (i := 3) rfl)) (fun _ h9 => h9) rfl (zat zrX7_advance_0_ok 30 rfl) ?_
        refine lv_icmp_lt (tgt := 73) hx hb (zat zrX7_advance_0_ok 31 rfl) (by decide) (fun c62 => ?_) (fun c62 => ?_)
        · have h := (if_pos c62).symm.trans h
          refine lv_aload_n hx hb (zat zrX7_advance_0_ok 36 rfl) rfl (lv_at hl 0 rfl) ?_
          refine lv_aload_n hx hb (zat zrX7_advance_0_ok 37 rfl) rfl (lv_at hl 0 rfl) ?_
          refine va_get (D := (dC, dI)) (ci := 5) (v := .int v8_r_r.2.2.2.2.1) (C := RX7) (T := TX7) (N := 12) hx hb hts ifX7_advance_X7 hown hK hP 0 rfl rfl 4 (by decide) (hts (.fieldLink RX7 25 "HookPier$Reader" "start" "I") (List.mem_of_getElem? (i := 2) rfl)) (fun _ h9 => h9) rfl (zat zrX7_advance_0_ok 38 rfl) ?_
          obtain ⟨o78, eo78, h⟩ := bd_of h
          refine ck_i (wc := (bX7 a0 ur kr (v8_r_r.1, v8_r_r.2.1, v8_r_r.2.2.1, v8_r_r.2.2.2.1, v8_r_r.2.2.2.2.1, v8_r_r.2.2.2.2.1, v8_r_r.2.2.2.2.2.2) [])) (wr := []) hP hD hK hS hA [0, 1, 2, 3] [] rfl rfl (by decide) (by decide) (by decide) (fun hPc hDc => (va_runV (As := [.int v8_r_r.2.2.2.2.1]) (rest := []) ⟨hx, hb, hml, hown, hts⟩ (kfX7_isLetter l dC dI a0 v8_r_r.2.2.2.2.1 ur kr (v8_r_r.1, v8_r_r.2.1, v8_r_r.2.2.1, v8_r_r.2.2.2.1, v8_r_r.2.2.2.2.1, v8_r_r.2.2.2.2.1, v8_r_r.2.2.2.2.2.2) H.size o78 eo78) (cwV 1 hts gfX7_advance_0 rfl rfl rfl (by decide +kernel) ⟨(Nat.le_of_ble_eq_true rfl), (Nat.le_of_ble_eq_true rfl)⟩) (PV hPc (hK.sub (tys' := (tX7 kr ([]))) [0, 1, 2] rfl) hDc hN 0 rfl rfl) rfl rfl hl.1 rfl (lv_room (Nat.le_of_ble_eq_true rfl)) (zat zrX7_advance_0_ok 39 rfl) ⟨(Nat.le_of_ble_eq_true rfl), (Nat.le_of_ble_eq_true rfl)⟩)) (fun r78 _ H locs hw hP hD _ hS => ?_)
          obtain ⟨hw, br78⟩ := hw
          obtain rfl := hw.symm
          obtain ⟨hP, hD⟩ := pd_mk (bX7 a0 ur kr (v8_r_r.1, v8_r_r.2.1, v8_r_r.2.2.1, v8_r_r.2.2.2.1, v8_r_r.2.2.2.2.1, v8_r_r.2.2.2.2.1, v8_r_r.2.2.2.2.2.2) []) hP hD
          have L84 : ∀ (n84 : Nat) (v84_r_r : TX7_r) (H : Heap) (locs : List Loc) (ls : Array Slot), f_X7_advance_L84 n84 v84_r_r = some out → va_P (dC, dI) vwCl (bX7 a0 ur kr v84_r_r []) H → va_D A (bX7 a0 ur kr v84_r_r []) → va_S A s.heap H locs → lv_has ls 1 [(0, .ref a0)] → W p l e (headSpec vfX7_advance { frames := 1, cells := 0, slots := 0, locals := 21 }).room s m ([.ref a0]).toArray below meth c H locs 0 0 QQ (F0 m 84 ls []) := by
            intro n84
            induction n84 with
            | zero =>
              intro v84_r_r H locs ls h  _ _ _ _
              rw [f_X7_advance_L84] at h
              cases h
            | succ n84 ih84 =>
              intro v84_r_r H locs ls h  hP hD hS hl
              rw [f_X7_advance_L84] at h
              refine lv_aload_n hx hb (zat zrX7_advance_0_ok 41 rfl) rfl (lv_at hl 0 rfl) ?_
              refine va_get (D := (dC, dI)) (ci := 5) (v := .int v84_r_r.2.2.2.2.2.1) (C := RX7) (T := TX7) (N := 12) hx hb hts ifX7_advance_X7 hown hK hP 0 rfl rfl 5 (by decide) (hts (.fieldLink RX7 28 "HookPier$Reader" "behind" "I") (List.mem_of_getElem? (i := 1) rfl)) (fun _ h9 => h9) rfl (zat zrX7_advance_0_ok 42 rfl) ?_
              refine lv_aload_n hx hb (zat zrX7_advance_0_ok 43 rfl) rfl (lv_at hl 0 rfl) ?_
              refine va_get (D := (dC, dI)) (ci := 5) (v := .int v84_r_r.2.2.1) (C := RX7) (T := TX7) (N := 12) hx hb hts ifX7_advance_X7 hown hK hP 0 rfl rfl 2 (by decide) (hts (.fieldLink RX7 19 "HookPier$Reader" "end" "I") (List.mem_of_getElem? (i := 3) rfl)) (fun _ h9 => h9) rfl (zat zrX7_advance_0_ok 44 rfl) ?_
              have J119 : ∀ (H : Heap) (locs : List Loc) (ls : Array Slot), f_X7_advance_J119 v84_r_r = some out → va_P (dC, dI) vwCl (bX7 a0 ur kr v84_r_r []) H → va_D A (bX7 a0 ur kr v84_r_r []) → va_S A s.heap H locs → lv_has ls 1 [(0, .ref a0)] → W p l e (headSpec vfX7_advance { frames := 1, cells := 0, slots := 0, locals := 21 }).room s m ([.ref a0]).toArray below meth c H locs 0 0 QQ (F0 m 119 ls []) := by
                intro  H locs ls h  hP hD hS hl
                rw [f_X7_advance_J119] at h
                refine lv_aload_n hx hb (zat zrX7_advance_0_ok 58 rfl) rfl (lv_at hl 0 rfl) ?_
                refine lv_aload_n hx hb (zat zrX7_advance_0_ok 59 rfl) rfl (lv_at hl 0 rfl) ?_
                refine va_get (D := (dC, dI)) (ci := 5) (v := .int v84_r_r.2.2.2.2.2.1) (C := RX7) (T := TX7) (N := 12) hx hb hts ifX7_advance_X7 hown hK hP 0 rfl rfl 5 (by decide) (hts (.fieldLink RX7 28 "HookPier$Reader" "behind" "I") (List.mem_of_getElem? (i := 1) rfl)) (fun _ h9 => h9) rfl (zat zrX7_advance_0_ok 60 rfl) ?_
                refine lv_aload_n hx hb (zat zrX7_advance_0_ok 61 rfl) rfl (lv_at hl 0 rfl) ?_
                refine va_get (D := (dC, dI)) (ci := 5) (v := .int v84_r_r.2.2.2.2.1) (C := RX7) (T := TX7) (N := 12) hx hb hts ifX7_advance_X7 hown hK hP 0 rfl rfl 4 (by decide) (hts (.fieldLink RX7 25 "HookPier$Reader" "start" "I") (List.mem_of_getElem? (i := 2) rfl)) (fun _ h9 => h9) rfl (zat zrX7_advance_0_ok 62 rfl) ?_
                refine lv_isub hx hb (zat zrX7_advance_0_ok 63 rfl) ?_
                refine lv_bipush (v := 8) hx hb (zat zrX7_advance_1_ok 0 rfl) (by decide) ?_
                have J139 : ∀ (v139_t1 : Int32) (H : Heap) (locs : List Loc) (ls : Array Slot), f_X7_advance_J139 v84_r_r v139_t1 = some out → va_P (dC, dI) vwCl (bX7 a0 ur kr v84_r_r []) H → va_D A (bX7 a0 ur kr v84_r_r []) → va_S A s.heap H locs → lv_has ls 1 [] → W p l e (headSpec vfX7_advance { frames := 1, cells := 0, slots := 0, locals := 21 }).room s m ([.ref a0]).toArray below meth c H locs 0 0 QQ (F0 m 139 ls [.int v139_t1, .ref a0]) := by
                  intro v139_t1 H locs ls h  hP hD hS hl
                  rw [f_X7_advance_J139] at h
                  refine va_put (D := (dC, dI)) (ci := 5) (v := .int v139_t1) (ty := .int) (C := RX7) (T := TX7) (N := 12) hx hb hts ifX7_advance_X7 tyX7 tyX7_ok nmX7 hown hK hP hD hS 0 rfl rfl 3 (by decide) (hts (.fieldLink RX7 22 "HookPier$Reader" "token" "I") (List.mem_of_getElem? (i := 8) rfl)) (fun _ h9 => h9) rfl (by decide +kernel) rfl rfl (Nat.le_of_ble_eq_true rfl) (zat zrX7_advance_1_ok 5 rfl) (fun H locs hP hD hS => ?_)
                  obtain ⟨hP, hD⟩ := pd_mk (bX7 a0 ur kr (v84_r_r.1, v84_r_r.2.1, v84_r_r.2.2.1, v139_t1, v84_r_r.2.2.2.2) []) hP hD
                  refine lv_goto (tgt := 249) hx hb (zat zrX7_advance_1_ok 6 rfl) (by decide) ?_
                  obtain rfl := Option.some.inj h
                  obtain ⟨hP9, hD9⟩ := pd_sub (bX7 a0 ur kr (v84_r_r.1, v84_r_r.2.1, v84_r_r.2.2.1, v139_t1, v84_r_r.2.2.2.2) []) [0, 1, 2, 3] hP hD (by decide) rfl
                  have hK9 := hK.sub (tys' := []) [] rfl
                  rw [hQQ]
                  exact W.vret hx hb hr (fun t ht hW => ⟨⟨(), rfl, trivial, by rw [ht]; exact hP9, va_K.moved hW.alike hK9, hD9⟩, hS.F ht⟩) hS.2.2 (zat zrX7_advance_1_ok 60 rfl)
                refine lv_icmp_gt (tgt := 138) hx hb (zat zrX7_advance_1_ok 1 rfl) (by decide) (fun c131 => ?_) (fun c131 => ?_)
                · have h := (if_pos c131).symm.trans h
                  refine lv_iconst (v := 4) hx hb (zat zrX7_advance_1_ok 4 rfl) (by decide) ?_
                  exact J139 (4 : Int32) H _ ls h  hP hD hS (lv_sub hl [] rfl)
                · have h := (if_neg c131).symm.trans h
                  refine lv_iconst (v := 1) hx hb (zat zrX7_advance_1_ok 2 rfl) (by decide) ?_
                  refine lv_goto (tgt := 139) hx hb (zat zrX7_advance_1_ok 3 rfl) (by decide) ?_
                  exact J139 (1 : Int32) H _ ls h  hP hD hS (lv_sub hl [] rfl)
              refine lv_icmp_ge (tgt := 119) hx hb (zat zrX7_advance_0_ok 45 rfl) (by decide) (fun c92 => ?_) (fun c92 => ?_)
              · have h := (if_pos c92).symm.trans h
                exact J119  H _ ls h  hP hD hS (lv_sub hl [0] rfl)
              · have h := (if_neg c92).symm.trans h
                refine lv_aload_n hx hb (zat zrX7_advance_0_ok 46 rfl) rfl (lv_at hl 0 rfl) ?_
                refine lv_aload_n hx hb (zat zrX7_advance_0_ok 47 rfl) rfl (lv_at hl 0 rfl) ?_
                refine va_get (D := (dC, dI)) (ci := 5) (v := .int v84_r_r.2.2.2.2.2.1) (C := RX7) (T := TX7) (N := 12) hx hb hts ifX7_advance_X7 hown hK hP 0 rfl rfl 5 (by decide) (hts (.fieldLink RX7 28 "HookPier$Reader" "behind" "I") (List.mem_of_getElem? (i := 1) rfl)) (fun _ h9 => h9) rfl (zat zrX7_advance_0_ok 48 rfl) ?_
                obtain ⟨o100, eo100, h⟩ := bd_of h
                refine ck_i (wc := (bX7 a0 ur kr v84_r_r [])) (wr := []) hP hD hK hS hA [0, 1, 2, 3] [] rfl rfl (by decide) (by decide) (by decide) (fun hPc hDc => (va_runV (As := [.int v84_r_r.2.2.2.2.2.1]) (rest := []) ⟨hx, hb, hml, hown, hts⟩ (kfX7_isLetter l dC dI a0 v84_r_r.2.2.2.2.2.1 ur kr v84_r_r H.size o100 eo100) (cwV 1 hts gfX7_advance_0 rfl rfl rfl (by decide +kernel) ⟨(Nat.le_of_ble_eq_true rfl), (Nat.le_of_ble_eq_true rfl)⟩) (PV hPc (hK.sub (tys' := (tX7 kr ([]))) [0, 1, 2] rfl) hDc hN 0 rfl rfl) rfl rfl hl.1 rfl (lv_room (Nat.le_of_ble_eq_true rfl)) (zat zrX7_advance_0_ok 49 rfl) ⟨(Nat.le_of_ble_eq_true rfl), (Nat.le_of_ble_eq_true rfl)⟩)) (fun r100 _ H locs hw hP hD _ hS => ?_)
                obtain ⟨hw, br100⟩ := hw
                obtain rfl := hw.symm
                obtain ⟨hP, hD⟩ := pd_mk (bX7 a0 ur kr v84_r_r []) hP hD
                refine lv_if_eq (tgt := 119) hx hb (zat zrX7_advance_0_ok 50 rfl) (by decide) (fun c103 => ?_) (fun c103 => ?_)
                · have h := (if_pos c103).symm.trans h
                  exact J119  H _ ls h  hP hD hS (lv_sub hl [0] rfl)
                · have h := (if_neg c103).symm.trans h
                  refine lv_aload_n hx hb (zat zrX7_advance_0_ok 51 rfl) rfl (lv_at hl 0 rfl) ?_
                  refine lv_dup hx hb (zat zrX7_advance_0_ok 52 rfl) rfl ?_
                  refine va_get (D := (dC, dI)) (ci := 5) (v := .int v84_r_r.2.2.2.2.2.1) (C := RX7) (T := TX7) (N := 12) hx hb hts ifX7_advance_X7 hown hK hP 0 rfl rfl 5 (by decide) (hts (.fieldLink RX7 28 "HookPier$Reader" "behind" "I") (List.mem_of_getElem? (i := 1) rfl)) (fun _ h9 => h9) rfl (zat zrX7_advance_0_ok 53 rfl) ?_
                  refine lv_iconst (v := 1) hx hb (zat zrX7_advance_0_ok 54 rfl) (by decide) ?_
                  refine lv_iadd hx hb (zat zrX7_advance_0_ok 55 rfl) ?_
                  refine va_put (D := (dC, dI)) (ci := 5) (v := .int (v84_r_r.2.2.2.2.2.1 + (1 : Int32))) (ty := .int) (C := RX7) (T := TX7) (N := 12) hx hb hts ifX7_advance_X7 tyX7 tyX7_ok nmX7 hown hK hP hD hS 0 rfl rfl 5 (by decide) (hts (.fieldLink RX7 28 "HookPier$Reader" "behind" "I") (List.mem_of_getElem? (i := 1) rfl)) (fun _ h9 => h9) rfl (by decide +kernel) rfl rfl (Nat.le_of_ble_eq_true rfl) (zat zrX7_advance_0_ok 56 rfl) (fun H locs hP hD hS => ?_)
                  obtain ⟨hP, hD⟩ := pd_mk (bX7 a0 ur kr (v84_r_r.1, v84_r_r.2.1, v84_r_r.2.2.1, v84_r_r.2.2.2.1, v84_r_r.2.2.2.2.1, (v84_r_r.2.2.2.2.2.1 + (1 : Int32)), v84_r_r.2.2.2.2.2.2) []) hP hD
                  refine lv_goto (tgt := 84) hx hb (zat zrX7_advance_0_ok 57 rfl) (by decide) ?_
                  exact ih84 (v84_r_r.1, v84_r_r.2.1, v84_r_r.2.2.1, v84_r_r.2.2.2.1, v84_r_r.2.2.2.2.1, (v84_r_r.2.2.2.2.2.1 + (1 : Int32)), v84_r_r.2.2.2.2.2.2) H _ ls h  hP hD hS (lv_sub hl [0] rfl)
          refine lv_if_eq (tgt := 145) hx hb (zat zrX7_advance_0_ok 40 rfl) (by decide) (fun c81 => ?_) (fun c81 => ?_)
          · have h := (if_pos c81).symm.trans h
            refine lv_aload_n hx hb (zat zrX7_advance_1_ok 7 rfl) rfl (lv_at hl 0 rfl) ?_
            refine lv_aload_n hx hb (zat zrX7_advance_1_ok 8 rfl) rfl (lv_at hl 0 rfl) ?_
            refine va_get (D := (dC, dI)) (ci := 5) (v := .int v8_r_r.2.2.2.2.1) (C := RX7) (T := TX7) (N := 12) hx hb hts ifX7_advance_X7 hown hK hP 0 rfl rfl 4 (by decide) (hts (.fieldLink RX7 25 "HookPier$Reader" "start" "I") (List.mem_of_getElem? (i := 2) rfl)) (fun _ h9 => h9) rfl (zat zrX7_advance_1_ok 9 rfl) ?_
            obtain ⟨o150, eo150, h⟩ := bd_of h
            refine ck_i (wc := (bX7 a0 ur kr (v8_r_r.1, v8_r_r.2.1, v8_r_r.2.2.1, v8_r_r.2.2.2.1, v8_r_r.2.2.2.2.1, v8_r_r.2.2.2.2.1, v8_r_r.2.2.2.2.2.2) [])) (wr := []) hP hD hK hS hA [0, 1, 2, 3] [] rfl rfl (by decide) (by decide) (by decide) (fun hPc hDc => (va_runV (As := [.int v8_r_r.2.2.2.2.1]) (rest := []) ⟨hx, hb, hml, hown, hts⟩ (kfX7_isDigit l dC dI a0 v8_r_r.2.2.2.2.1 ur kr (v8_r_r.1, v8_r_r.2.1, v8_r_r.2.2.1, v8_r_r.2.2.2.1, v8_r_r.2.2.2.2.1, v8_r_r.2.2.2.2.1, v8_r_r.2.2.2.2.2.2) H.size o150 eo150) (cwV 1 hts gfX7_advance_1 rfl rfl rfl (by decide +kernel) ⟨(Nat.le_of_ble_eq_true rfl), (Nat.le_of_ble_eq_true rfl)⟩) (PV hPc (hK.sub (tys' := (tX7 kr ([]))) [0, 1, 2] rfl) hDc hN 0 rfl rfl) rfl rfl hl.1 rfl (lv_room (Nat.le_of_ble_eq_true rfl)) (zat zrX7_advance_1_ok 10 rfl) ⟨(Nat.le_of_ble_eq_true rfl), (Nat.le_of_ble_eq_true rfl)⟩)) (fun r150 _ H locs hw hP hD _ hS => ?_)
            obtain ⟨hw, br150⟩ := hw
            obtain rfl := hw.symm
            obtain ⟨hP, hD⟩ := pd_mk (bX7 a0 ur kr (v8_r_r.1, v8_r_r.2.1, v8_r_r.2.2.1, v8_r_r.2.2.2.1, v8_r_r.2.2.2.2.1, v8_r_r.2.2.2.2.1, v8_r_r.2.2.2.2.2.2) []) hP hD
            have L156 : ∀ (n156 : Nat) (v156_r_r : TX7_r) (H : Heap) (locs : List Loc) (ls : Array Slot), f_X7_advance_L156 n156 v156_r_r = some out → va_P (dC, dI) vwCl (bX7 a0 ur kr v156_r_r []) H → va_D A (bX7 a0 ur kr v156_r_r []) → va_S A s.heap H locs → lv_has ls 1 [(0, .ref a0)] → W p l e (headSpec vfX7_advance { frames := 1, cells := 0, slots := 0, locals := 21 }).room s m ([.ref a0]).toArray below meth c H locs 0 0 QQ (F0 m 156 ls []) := by
              intro n156
              induction n156 with
              | zero =>
                intro v156_r_r H locs ls h  _ _ _ _
                rw [f_X7_advance_L156] at h
                cases h
              | succ n156 ih156 =>
                intro v156_r_r H locs ls h  hP hD hS hl
                rw [f_X7_advance_L156] at h
                refine lv_aload_n hx hb (zat zrX7_advance_1_ok 12 rfl) rfl (lv_at hl 0 rfl) ?_
                refine va_get (D := (dC, dI)) (ci := 5) (v := .int v156_r_r.2.2.2.2.2.1) (C := RX7) (T := TX7) (N := 12) hx hb hts ifX7_advance_X7 hown hK hP 0 rfl rfl 5 (by decide) (hts (.fieldLink RX7 28 "HookPier$Reader" "behind" "I") (List.mem_of_getElem? (i := 1) rfl)) (fun _ h9 => h9) rfl (zat zrX7_advance_1_ok 13 rfl) ?_
                refine lv_aload_n hx hb (zat zrX7_advance_1_ok 14 rfl) rfl (lv_at hl 0 rfl) ?_
                refine va_get (D := (dC, dI)) (ci := 5) (v := .int v156_r_r.2.2.1) (C := RX7) (T := TX7) (N := 12) hx hb hts ifX7_advance_X7 hown hK hP 0 rfl rfl 2 (by decide) (hts (.fieldLink RX7 19 "HookPier$Reader" "end" "I") (List.mem_of_getElem? (i := 3) rfl)) (fun _ h9 => h9) rfl (zat zrX7_advance_1_ok 15 rfl) ?_
                have J191 : ∀ (H : Heap) (locs : List Loc) (ls : Array Slot), f_X7_advance_J191 v156_r_r = some out → va_P (dC, dI) vwCl (bX7 a0 ur kr v156_r_r []) H → va_D A (bX7 a0 ur kr v156_r_r []) → va_S A s.heap H locs → lv_has ls 1 [(0, .ref a0)] → W p l e (headSpec vfX7_advance { frames := 1, cells := 0, slots := 0, locals := 21 }).room s m ([.ref a0]).toArray below meth c H locs 0 0 QQ (F0 m 191 ls []) := by
                  intro  H locs ls h  hP hD hS hl
                  rw [f_X7_advance_J191] at h
                  refine lv_aload_n hx hb (zat zrX7_advance_1_ok 29 rfl) rfl (lv_at hl 0 rfl) ?_
                  refine lv_aload_n hx hb (zat zrX7_advance_1_ok 30 rfl) rfl (lv_at hl 0 rfl) ?_
                  refine va_get (D := (dC, dI)) (ci := 5) (v := .int v156_r_r.2.2.2.2.2.1) (C := RX7) (T := TX7) (N := 12) hx hb hts ifX7_advance_X7 hown hK hP 0 rfl rfl 5 (by decide) (hts (.fieldLink RX7 28 "HookPier$Reader" "behind" "I") (List.mem_of_getElem? (i := 1) rfl)) (fun _ h9 => h9) rfl (zat zrX7_advance_1_ok 31 rfl) ?_
                  refine lv_aload_n hx hb (zat zrX7_advance_1_ok 32 rfl) rfl (lv_at hl 0 rfl) ?_
                  refine va_get (D := (dC, dI)) (ci := 5) (v := .int v156_r_r.2.2.2.2.1) (C := RX7) (T := TX7) (N := 12) hx hb hts ifX7_advance_X7 hown hK hP 0 rfl rfl 4 (by decide) (hts (.fieldLink RX7 25 "HookPier$Reader" "start" "I") (List.mem_of_getElem? (i := 2) rfl)) (fun _ h9 => h9) rfl (zat zrX7_advance_1_ok 33 rfl) ?_
                  refine lv_isub hx hb (zat zrX7_advance_1_ok 34 rfl) ?_
                  refine lv_iconst (v := 2) hx hb (zat zrX7_advance_1_ok 35 rfl) (by decide) ?_
                  have J210 : ∀ (v210_t1 : Int32) (H : Heap) (locs : List Loc) (ls : Array Slot), f_X7_advance_J210 v156_r_r v210_t1 = some out → va_P (dC, dI) vwCl (bX7 a0 ur kr v156_r_r []) H → va_D A (bX7 a0 ur kr v156_r_r []) → va_S A s.heap H locs → lv_has ls 1 [] → W p l e (headSpec vfX7_advance { frames := 1, cells := 0, slots := 0, locals := 21 }).room s m ([.ref a0]).toArray below meth c H locs 0 0 QQ (F0 m 210 ls [.int v210_t1, .ref a0]) := by
                    intro v210_t1 H locs ls h  hP hD hS hl
                    rw [f_X7_advance_J210] at h
                    refine va_put (D := (dC, dI)) (ci := 5) (v := .int v210_t1) (ty := .int) (C := RX7) (T := TX7) (N := 12) hx hb hts ifX7_advance_X7 tyX7 tyX7_ok nmX7 hown hK hP hD hS 0 rfl rfl 3 (by decide) (hts (.fieldLink RX7 22 "HookPier$Reader" "token" "I") (List.mem_of_getElem? (i := 8) rfl)) (fun _ h9 => h9) rfl (by decide +kernel) rfl rfl (Nat.le_of_ble_eq_true rfl) (zat zrX7_advance_1_ok 40 rfl) (fun H locs hP hD hS => ?_)
                    obtain ⟨hP, hD⟩ := pd_mk (bX7 a0 ur kr (v156_r_r.1, v156_r_r.2.1, v156_r_r.2.2.1, v210_t1, v156_r_r.2.2.2.2) []) hP hD
                    refine lv_goto (tgt := 249) hx hb (zat zrX7_advance_1_ok 41 rfl) (by decide) ?_
                    obtain rfl := Option.some.inj h
                    obtain ⟨hP9, hD9⟩ := pd_sub (bX7 a0 ur kr (v156_r_r.1, v156_r_r.2.1, v156_r_r.2.2.1, v210_t1, v156_r_r.2.2.2.2) []) [0, 1, 2, 3] hP hD (by decide) rfl
                    have hK9 := hK.sub (tys' := []) [] rfl
                    rw [hQQ]
                    exact W.vret hx hb hr (fun t ht hW => ⟨⟨(), rfl, trivial, by rw [ht]; exact hP9, va_K.moved hW.alike hK9, hD9⟩, hS.F ht⟩) hS.2.2 (zat zrX7_advance_1_ok 60 rfl)
                  refine lv_icmp_gt (tgt := 209) hx hb (zat zrX7_advance_1_ok 36 rfl) (by decide) (fun c202 => ?_) (fun c202 => ?_)
                  · have h := (if_pos c202).symm.trans h
                    refine lv_iconst (v := 4) hx hb (zat zrX7_advance_1_ok 39 rfl) (by decide) ?_
                    exact J210 (4 : Int32) H _ ls h  hP hD hS (lv_sub hl [] rfl)
                  · have h := (if_neg c202).symm.trans h
                    refine lv_iconst (v := 2) hx hb (zat zrX7_advance_1_ok 37 rfl) (by decide) ?_
                    refine lv_goto (tgt := 210) hx hb (zat zrX7_advance_1_ok 38 rfl) (by decide) ?_
                    exact J210 (2 : Int32) H _ ls h  hP hD hS (lv_sub hl [] rfl)
                refine lv_icmp_ge (tgt := 191) hx hb (zat zrX7_advance_1_ok 16 rfl) (by decide) (fun c164 => ?_) (fun c164 => ?_)
                · have h := (if_pos c164).symm.trans h
                  exact J191  H _ ls h  hP hD hS (lv_sub hl [0] rfl)
                · have h := (if_neg c164).symm.trans h
                  refine lv_aload_n hx hb (zat zrX7_advance_1_ok 17 rfl) rfl (lv_at hl 0 rfl) ?_
                  refine lv_aload_n hx hb (zat zrX7_advance_1_ok 18 rfl) rfl (lv_at hl 0 rfl) ?_
                  refine va_get (D := (dC, dI)) (ci := 5) (v := .int v156_r_r.2.2.2.2.2.1) (C := RX7) (T := TX7) (N := 12) hx hb hts ifX7_advance_X7 hown hK hP 0 rfl rfl 5 (by decide) (hts (.fieldLink RX7 28 "HookPier$Reader" "behind" "I") (List.mem_of_getElem? (i := 1) rfl)) (fun _ h9 => h9) rfl (zat zrX7_advance_1_ok 19 rfl) ?_
                  obtain ⟨o172, eo172, h⟩ := bd_of h
                  refine ck_i (wc := (bX7 a0 ur kr v156_r_r [])) (wr := []) hP hD hK hS hA [0, 1, 2, 3] [] rfl rfl (by decide) (by decide) (by decide) (fun hPc hDc => (va_runV (As := [.int v156_r_r.2.2.2.2.2.1]) (rest := []) ⟨hx, hb, hml, hown, hts⟩ (kfX7_isDigit l dC dI a0 v156_r_r.2.2.2.2.2.1 ur kr v156_r_r H.size o172 eo172) (cwV 1 hts gfX7_advance_1 rfl rfl rfl (by decide +kernel) ⟨(Nat.le_of_ble_eq_true rfl), (Nat.le_of_ble_eq_true rfl)⟩) (PV hPc (hK.sub (tys' := (tX7 kr ([]))) [0, 1, 2] rfl) hDc hN 0 rfl rfl) rfl rfl hl.1 rfl (lv_room (Nat.le_of_ble_eq_true rfl)) (zat zrX7_advance_1_ok 20 rfl) ⟨(Nat.le_of_ble_eq_true rfl), (Nat.le_of_ble_eq_true rfl)⟩)) (fun r172 _ H locs hw hP hD _ hS => ?_)
                  obtain ⟨hw, br172⟩ := hw
                  obtain rfl := hw.symm
                  obtain ⟨hP, hD⟩ := pd_mk (bX7 a0 ur kr v156_r_r []) hP hD
                  refine lv_if_eq (tgt := 191) hx hb (zat zrX7_advance_1_ok 21 rfl) (by decide) (fun c175 => ?_) (fun c175 => ?_)
                  · have h := (if_pos c175).symm.trans h
                    exact J191  H _ ls h  hP hD hS (lv_sub hl [0] rfl)
                  · have h := (if_neg c175).symm.trans h
                    refine lv_aload_n hx hb (zat zrX7_advance_1_ok 22 rfl) rfl (lv_at hl 0 rfl) ?_
                    refine lv_dup hx hb (zat zrX7_advance_1_ok 23 rfl) rfl ?_
                    refine va_get (D := (dC, dI)) (ci := 5) (v := .int v156_r_r.2.2.2.2.2.1) (C := RX7) (T := TX7) (N := 12) hx hb hts ifX7_advance_X7 hown hK hP 0 rfl rfl 5 (by decide) (hts (.fieldLink RX7 28 "HookPier$Reader" "behind" "I") (List.mem_of_getElem? (i := 1) rfl)) (fun _ h9 => h9) rfl (zat zrX7_advance_1_ok 24 rfl) ?_
                    refine lv_iconst (v := 1) hx hb (zat zrX7_advance_1_ok 25 rfl) (by decide) ?_
                    refine lv_iadd hx hb (zat zrX7_advance_1_ok 26 rfl) ?_
                    refine va_put (D := (dC, dI)) (ci := 5) (v := .int (v156_r_r.2.2.2.2.2.1 + (1 : Int32))) (ty := .int) (C := RX7) (T := TX7) (N := 12) hx hb hts ifX7_advance_X7 tyX7 tyX7_ok nmX7 hown hK hP hD hS 0 rfl rfl 5 (by decide) (hts (.fieldLink RX7 28 "HookPier$Reader" "behind" "I") (List.mem_of_getElem? (i := 1) rfl)) (fun _ h9 => h9) rfl (by decide +kernel) rfl rfl (Nat.le_of_ble_eq_true rfl) (zat zrX7_advance_1_ok 27 rfl) (fun H locs hP hD hS => ?_)
                    obtain ⟨hP, hD⟩ := pd_mk (bX7 a0 ur kr (v156_r_r.1, v156_r_r.2.1, v156_r_r.2.2.1, v156_r_r.2.2.2.1, v156_r_r.2.2.2.2.1, (v156_r_r.2.2.2.2.2.1 + (1 : Int32)), v156_r_r.2.2.2.2.2.2) []) hP hD
                    refine lv_goto (tgt := 156) hx hb (zat zrX7_advance_1_ok 28 rfl) (by decide) ?_
                    exact ih156 (v156_r_r.1, v156_r_r.2.1, v156_r_r.2.2.1, v156_r_r.2.2.2.1, v156_r_r.2.2.2.2.1, (v156_r_r.2.2.2.2.2.1 + (1 : Int32)), v156_r_r.2.2.2.2.2.2) H _ ls h  hP hD hS (lv_sub hl [0] rfl)
            refine lv_if_eq (tgt := 216) hx hb (zat zrX7_advance_1_ok 11 rfl) (by decide) (fun c153 => ?_) (fun c153 => ?_)
            · have h := (if_pos c153).symm.trans h
              refine lv_aload_n hx hb (zat zrX7_advance_1_ok 42 rfl) rfl (lv_at hl 0 rfl) ?_
              refine lv_aload_n hx hb (zat zrX7_advance_1_ok 43 rfl) rfl (lv_at hl 0 rfl) ?_
              refine va_get (D := (dC, dI)) (ci := 5) (v := .ref (ur 0)) (C := RX7) (T := TX7) (N := 12) hx hb hts ifX7_advance_X7 hown hK hP 0 rfl rfl 0 (by decide) (hts (.fieldLink RX7 9 "HookPier$Reader" "text" "[B") (List.mem_of_getElem? (i := 12) rfl)) (fun _ h9 => h9) rfl (zat zrX7_advance_1_ok 44 rfl) ?_
              refine lv_aload_n hx hb (zat zrX7_advance_1_ok 45 rfl) rfl (lv_at hl 0 rfl) ?_
              refine va_get (D := (dC, dI)) (ci := 5) (v := .int v8_r_r.2.2.2.2.1) (C := RX7) (T := TX7) (N := 12) hx hb hts ifX7_advance_X7 hown hK hP 0 rfl rfl 4 (by decide) (hts (.fieldLink RX7 25 "HookPier$Reader" "start" "I") (List.mem_of_getElem? (i := 2) rfl)) (fun _ h9 => h9) rfl (zat zrX7_advance_1_ok 46 rfl) ?_
              obtain ⟨hg225, h⟩ := gA_of h
              refine va_bald hx hb hK hP 1 0 rfl rfl hg225 (zat zrX7_advance_1_ok 47 rfl) ?_
              refine lv_bipush (v := 59) hx hb (zat zrX7_advance_1_ok 48 rfl) (by decide) ?_
              have J236 : ∀ (v236_t1 : Int32) (H : Heap) (locs : List Loc) (ls : Array Slot), f_X7_advance_J236 v8_r_r v236_t1 = some out → va_P (dC, dI) vwCl (bX7 a0 ur kr (v8_r_r.1, v8_r_r.2.1, v8_r_r.2.2.1, v8_r_r.2.2.2.1, v8_r_r.2.2.2.2.1, v8_r_r.2.2.2.2.1, v8_r_r.2.2.2.2.2.2) []) H → va_D A (bX7 a0 ur kr (v8_r_r.1, v8_r_r.2.1, v8_r_r.2.2.1, v8_r_r.2.2.2.1, v8_r_r.2.2.2.2.1, v8_r_r.2.2.2.2.1, v8_r_r.2.2.2.2.2.2) []) → va_S A s.heap H locs → lv_has ls 1 [(0, .ref a0)] → W p l e (headSpec vfX7_advance { frames := 1, cells := 0, slots := 0, locals := 21 }).room s m ([.ref a0]).toArray below meth c H locs 0 0 QQ (F0 m 236 ls [.int v236_t1, .ref a0]) := by
                intro v236_t1 H locs ls h  hP hD hS hl
                rw [f_X7_advance_J236] at h
                refine va_put (D := (dC, dI)) (ci := 5) (v := .int v236_t1) (ty := .int) (C := RX7) (T := TX7) (N := 12) hx hb hts ifX7_advance_X7 tyX7 tyX7_ok nmX7 hown hK hP hD hS 0 rfl rfl 3 (by decide) (hts (.fieldLink RX7 22 "HookPier$Reader" "token" "I") (List.mem_of_getElem? (i := 8) rfl)) (fun _ h9 => h9) rfl (by decide +kernel) rfl rfl (Nat.le_of_ble_eq_true rfl) (zat zrX7_advance_1_ok 53 rfl) (fun H locs hP hD hS => ?_)
                obtain ⟨hP, hD⟩ := pd_mk (bX7 a0 ur kr (v8_r_r.1, v8_r_r.2.1, v8_r_r.2.2.1, v236_t1, v8_r_r.2.2.2.2.1, v8_r_r.2.2.2.2.1, v8_r_r.2.2.2.2.2.2) []) hP hD
                refine lv_aload_n hx hb (zat zrX7_advance_1_ok 54 rfl) rfl (lv_at hl 0 rfl) ?_
                refine lv_dup hx hb (zat zrX7_advance_1_ok 55 rfl) rfl ?_
                refine va_get (D := (dC, dI)) (ci := 5) (v := .int v8_r_r.2.2.2.2.1) (C := RX7) (T := TX7) (N := 12) hx hb hts ifX7_advance_X7 hown hK hP 0 rfl rfl 5 (by decide) (hts (.fieldLink RX7 28 "HookPier$Reader" "behind" "I") (List.mem_of_getElem? (i := 1) rfl)) (fun _ h9 => h9) rfl (zat zrX7_advance_1_ok 56 rfl) ?_
                refine lv_iconst (v := 1) hx hb (zat zrX7_advance_1_ok 57 rfl) (by decide) ?_
                refine lv_iadd hx hb (zat zrX7_advance_1_ok 58 rfl) ?_
                refine va_put (D := (dC, dI)) (ci := 5) (v := .int (v8_r_r.2.2.2.2.1 + (1 : Int32))) (ty := .int) (C := RX7) (T := TX7) (N := 12) hx hb hts ifX7_advance_X7 tyX7 tyX7_ok nmX7 hown hK hP hD hS 0 rfl rfl 5 (by decide) (hts (.fieldLink RX7 28 "HookPier$Reader" "behind" "I") (List.mem_of_getElem? (i := 1) rfl)) (fun _ h9 => h9) rfl (by decide +kernel) rfl rfl (Nat.le_of_ble_eq_true rfl) (zat zrX7_advance_1_ok 59 rfl) (fun H locs hP hD hS => ?_)
                obtain ⟨hP, hD⟩ := pd_mk (bX7 a0 ur kr (v8_r_r.1, v8_r_r.2.1, v8_r_r.2.2.1, v236_t1, v8_r_r.2.2.2.2.1, (v8_r_r.2.2.2.2.1 + (1 : Int32)), v8_r_r.2.2.2.2.2.2) []) hP hD
                obtain rfl := Option.some.inj h
                obtain ⟨hP9, hD9⟩ := pd_sub (bX7 a0 ur kr (v8_r_r.1, v8_r_r.2.1, v8_r_r.2.2.1, v236_t1, v8_r_r.2.2.2.2.1, (v8_r_r.2.2.2.2.1 + (1 : Int32)), v8_r_r.2.2.2.2.2.2) []) [0, 1, 2, 3] hP hD (by decide) rfl
                have hK9 := hK.sub (tys' := []) [] rfl
                rw [hQQ]
                exact W.vret hx hb hr (fun t ht hW => ⟨⟨(), rfl, trivial, by rw [ht]; exact hP9, va_K.moved hW.alike hK9, hD9⟩, hS.F ht⟩) hS.2.2 (zat zrX7_advance_1_ok 60 rfl)
              refine lv_icmp_ne (tgt := 235) hx hb (zat zrX7_advance_1_ok 49 rfl) (by decide) (fun c228 => ?_) (fun c228 => ?_)
              · have h := (if_neg c228).symm.trans h
                refine lv_iconst (v := 4) hx hb (zat zrX7_advance_1_ok 52 rfl) (by decide) ?_
                exact J236 (4 : Int32) H _ ls h  hP hD hS (lv_sub hl [0] rfl)
              · have h := (if_pos c228).symm.trans h
                refine lv_iconst (v := 3) hx hb (zat zrX7_advance_1_ok 50 rfl) (by decide) ?_
                refine lv_goto (tgt := 236) hx hb (zat zrX7_advance_1_ok 51 rfl) (by decide) ?_
                exact J236 (3 : Int32) H _ ls h  hP hD hS (lv_sub hl [0] rfl)
            · have h := (if_neg c153).symm.trans h
              exact L156 FU (v8_r_r.1, v8_r_r.2.1, v8_r_r.2.2.1, v8_r_r.2.2.2.1, v8_r_r.2.2.2.2.1, v8_r_r.2.2.2.2.1, v8_r_r.2.2.2.2.2.2) H _ ls h  hP hD hS (lv_sub hl [0] rfl)
          · have h := (if_neg c81).symm.trans h
            exact L84 FU (v8_r_r.1, v8_r_r.2.1, v8_r_r.2.2.1, v8_r_r.2.2.2.1, v8_r_r.2.2.2.2.1, v8_r_r.2.2.2.2.1, v8_r_r.2.2.2.2.2.2) H _ ls h  hP hD hS (lv_sub hl [0] rfl)
        · have h := (if_neg c62).symm.trans h
          refine lv_aload_n hx hb (zat zrX7_advance_0_ok 32 rfl) rfl (lv_at hl 0 rfl) ?_
          refine lv_iconst (v := 0) hx hb (zat zrX7_advance_0_ok 33 rfl) (by decide) ?_
          refine va_put (D := (dC, dI)) (ci := 5) (v := .int 0) (ty := .int) (C := RX7) (T := TX7) (N := 12) hx hb hts ifX7_advance_X7 tyX7 tyX7_ok nmX7 hown hK hP hD hS 0 rfl rfl 3 (by decide) (hts (.fieldLink RX7 22 "HookPier$Reader" "token" "I") (List.mem_of_getElem? (i := 8) rfl)) (fun _ h9 => h9) rfl (by decide +kernel) rfl rfl (Nat.le_of_ble_eq_true rfl) (zat zrX7_advance_0_ok 34 rfl) (fun H locs hP hD hS => ?_)
          obtain ⟨hP, hD⟩ := pd_mk (bX7 a0 ur kr (v8_r_r.1, v8_r_r.2.1, v8_r_r.2.2.1, (0 : Int32), v8_r_r.2.2.2.2.1, v8_r_r.2.2.2.2.1, v8_r_r.2.2.2.2.2.2) []) hP hD
          refine lv_goto (tgt := 249) hx hb (zat zrX7_advance_0_ok 35 rfl) (by decide) ?_
          obtain rfl := Option.some.inj h
          obtain ⟨hP9, hD9⟩ := pd_sub (bX7 a0 ur kr (v8_r_r.1, v8_r_r.2.1, v8_r_r.2.2.1, (0 : Int32), v8_r_r.2.2.2.2.1, v8_r_r.2.2.2.2.1, v8_r_r.2.2.2.2.2.2) []) [0, 1, 2, 3] hP hD (by decide) rfl
          have hK9 := hK.sub (tys' := []) [] rfl
          rw [hQQ]
          exact W.vret hx hb hr (fun t ht hW => ⟨⟨(), rfl, trivial, by rw [ht]; exact hP9, va_K.moved hW.alike hK9, hD9⟩, hS.F ht⟩) hS.2.2 (zat zrX7_advance_1_ok 60 rfl)
      refine lv_icmp_ge (tgt := 46) hx hb (zat zrX7_advance_0_ok 8 rfl) (by decide) (fun c16 => ?_) (fun c16 => ?_)
      · have h := (if_pos c16).symm.trans h
        exact J46  H _ ls h  hP hD hS (lv_sub hl [0] rfl)
      · have h := (if_neg c16).symm.trans h
        refine lv_aload_n hx hb (zat zrX7_advance_0_ok 9 rfl) rfl (lv_at hl 0 rfl) ?_
        refine va_get (D := (dC, dI)) (ci := 5) (v := .ref (ur 0)) (C := RX7) (T := TX7) (N := 12) hx hb hts ifX7_advance_X7 hown hK hP 0 rfl rfl 0 (by decide) (hts (.fieldLink RX7 9 "HookPier$Reader" "text" "[B") (List.mem_of_getElem? (i := 12) rfl)) (fun _ h9 => h9) rfl (zat zrX7_advance_0_ok 10 rfl) ?_
        refine lv_aload_n hx hb (zat zrX7_advance_0_ok 11 rfl) rfl (lv_at hl 0 rfl) ?_
        refine va_get (D := (dC, dI)) (ci := 5) (v := .int v8_r_r.2.2.2.2.1) (C := RX7) (T := TX7) (N := 12) hx hb hts ifX7_advance_X7 hown hK hP 0 rfl rfl 4 (by decide) (hts (.fieldLink RX7 25 "HookPier$Reader" "start" "I") (List.mem_of_getElem? (i := 2) rfl)) (fun _ h9 => h9) rfl (zat zrX7_advance_0_ok 12 rfl) ?_
        obtain ⟨hg27, h⟩ := gA_of h
        refine va_bald hx hb hK hP 1 0 rfl rfl hg27 (zat zrX7_advance_0_ok 13 rfl) ?_
        refine lv_bipush (v := 32) hx hb (zat zrX7_advance_0_ok 14 rfl) (by decide) ?_
        refine lv_icmp_ne (tgt := 46) hx hb (zat zrX7_advance_0_ok 15 rfl) (by decide) (fun c30 => ?_) (fun c30 => ?_)
        · have h := (if_neg c30).symm.trans h
          exact J46  H _ ls h  hP hD hS (lv_sub hl [0] rfl)
        · have h := (if_pos c30).symm.trans h
          refine lv_aload_n hx hb (zat zrX7_advance_0_ok 16 rfl) rfl (lv_at hl 0 rfl) ?_
          refine lv_dup hx hb (zat zrX7_advance_0_ok 17 rfl) rfl ?_
          refine va_get (D := (dC, dI)) (ci := 5) (v := .int v8_r_r.2.2.2.2.1) (C := RX7) (T := TX7) (N := 12) hx hb hts ifX7_advance_X7 hown hK hP 0 rfl rfl 4 (by decide) (hts (.fieldLink RX7 25 "HookPier$Reader" "start" "I") (List.mem_of_getElem? (i := 2) rfl)) (fun _ h9 => h9) rfl (zat zrX7_advance_0_ok 18 rfl) ?_
          refine lv_iconst (v := 1) hx hb (zat zrX7_advance_0_ok 19 rfl) (by decide) ?_
          refine lv_iadd hx hb (zat zrX7_advance_0_ok 20 rfl) ?_
          refine va_put (D := (dC, dI)) (ci := 5) (v := .int (v8_r_r.2.2.2.2.1 + (1 : Int32))) (ty := .int) (C := RX7) (T := TX7) (N := 12) hx hb hts ifX7_advance_X7 tyX7 tyX7_ok nmX7 hown hK hP hD hS 0 rfl rfl 4 (by decide) (hts (.fieldLink RX7 25 "HookPier$Reader" "start" "I") (List.mem_of_getElem? (i := 2) rfl)) (fun _ h9 => h9) rfl (by decide +kernel) rfl rfl (Nat.le_of_ble_eq_true rfl) (zat zrX7_advance_0_ok 21 rfl) (fun H locs hP hD hS => ?_)
          obtain ⟨hP, hD⟩ := pd_mk (bX7 a0 ur kr (v8_r_r.1, v8_r_r.2.1, v8_r_r.2.2.1, v8_r_r.2.2.2.1, (v8_r_r.2.2.2.2.1 + (1 : Int32)), v8_r_r.2.2.2.2.2) []) hP hD
          refine lv_goto (tgt := 8) hx hb (zat zrX7_advance_0_ok 22 rfl) (by decide) ?_
          exact ih8 (v8_r_r.1, v8_r_r.2.1, v8_r_r.2.2.1, v8_r_r.2.2.2.1, (v8_r_r.2.2.2.2.1 + (1 : Int32)), v8_r_r.2.2.2.2.2) H _ ls h  hP hD hS (lv_sub hl [0] rfl)
  exact L8 FU (r_r.1, r_r.2.1, r_r.2.2.1, r_r.2.2.2.1, r_r.2.2.2.2.2.1, r_r.2.2.2.2.2) H _ ls h  hP hD hS (lv_sub hl [0] rfl)
noncomputable def zrX7_fail_0 : List ZR := zc 0 true (.aload_n 0) 1 (zc 1 true (.iload_n 1) 1 (zc 2 true (.putfield 45) 3 (zc 5 true (.aload_n 0) 1 (zc 6 true (.aload_n 0) 1 (zc 7 true (.getfield 25) 3 (zc 10 true (.putfield 48) 3 (zc 13 true (.iconst 0) 1 (zc 14 true (.ireturn) 1 ([])))))))))
theorem zrX7_fail_0_ok : zck 0 ((zby cX7_fail).drop 0) zrX7_fail_0 = true := by decide +kernel
def vfX7_fail : List Cond := List.cons (.code yX7_fail cX7_fail 2 (some .boolean)) (apW [.fieldLink RX7 45 "HookPier$Reader" "fault" "I", .fieldLink RX7 25 "HookPier$Reader" "start" "I", .fieldLink RX7 48 "HookPier$Reader" "place" "I"] (wsX70))
theorem ifX7_fail_X7 : ∀ w ∈ wsX70, w ∈ vfX7_fail := fun _ h => (List.mem_cons_of_mem _ (List.mem_append_right _ h))
theorem qfX7_fail : Good vfX7_fail := gd_cons (by decide +kernel) (gd_app (gd_dec (by decide +kernel) : Good [.fieldLink RX7 45 "HookPier$Reader" "fault" "I", .fieldLink RX7 25 "HookPier$Reader" "start" "I", .fieldLink RX7 48 "HookPier$Reader" "place" "I"]) qsX7)
set_option maxHeartbeats 2000000 in
set_option maxRecDepth 100000 in
theorem kfX7_fail (l : Launch) (dC : Nat → ClassId) (dI : Nat → Nat → Nat) (a0 : Nat) (k1 : Int32) (ur : Nat → Nat) (kr : Nat → ClassId) (r_r : TX7_r) (sz : Nat) (out : TX7_r) (h : f_X7_fail k1 r_r = out) : KCi l yX7_fail vfX7_fail ({ frames := 0, cells := 0, slots := 0, locals := 0 }) (dC, dI) [.ref a0, .int k1] sz (bX7 a0 ur kr r_r []) (tX7 kr ([])) (fun (r : Int32) _ => r = 0 ∧ (0 ≤ r.toInt ∧ r.toInt ≤ 1)) (bX7 a0 ur kr out []) 0 0 := by
  refine Met.ofW (cc := cX7_fail) (maxL := 2) (ret := (some .boolean)) (by decide) rfl ?_
  intro p e s m args below meth c s₁ B0 hml hv
  obtain ⟨rfl, hsz, hP, hK, hD0, hN⟩ := hv
  have hx := B0.exec
  have hb := B0.bytes
  have hr := B0.returns
  have hts := atoms_spec (ws := vfX7_fail) B0.pre
  have hown : s.vm.findClass RX7 = some m.cls := findClass_of_methodNamed B0.named
  have hlocks := B0.notSynchronized
  subst hsz
  have hD := hD0.self (sz := s.heap.size)
  generalize hAe : va_A (bX7 a0 ur kr r_r []) s.heap.size = A at hD ⊢
  have hA : ∀ q : Nat, s.heap.size ≤ q → A q := fun q h => by rw [← hAe]; exact Or.inr h
  have hS : va_S A s.heap s.heap [] := va_S.rf
  have hP : va_P (dC, dI) vwCl (bX7 a0 ur kr r_r []) s.heap := hP
  have hl := lv_entry ([.ref a0, .int k1]) (n := 2) (Nat.le_of_ble_eq_true rfl)
  rw [lg_entry_eq]
  generalize (lg_sl ([.ref a0, .int k1]) ++ List.replicate (2 - (lg_sl ([.ref a0, .int k1])).length) Slot.unset).toArray = ls at hl ⊢
  have hl : lv_has ls 2 [(0, .ref a0), (1, .int k1)] := hl
  refine W_q (fun QQ hQQ => ?_)
  rw [f_X7_fail] at h
  refine lv_aload_n hx hb (zat zrX7_fail_0_ok 0 rfl) rfl (lv_at hl 0 rfl) ?_
  refine lv_iload_n hx hb (zat zrX7_fail_0_ok 1 rfl) rfl (lv_at hl 1 rfl) ?_
  refine va_put (D := (dC, dI)) (ci := 5) (v := .int k1) (ty := .int) (C := RX7) (T := TX7) (N := 12) hx hb hts ifX7_fail_X7 tyX7 tyX7_ok nmX7 hown hK hP hD hS 0 rfl rfl 10 (by decide) (hts (.fieldLink RX7 45 "HookPier$Reader" "fault" "I") (List.mem_of_getElem? (i := 1) rfl)) (fun _ h9 => h9) rfl (by decide +kernel) rfl rfl (Nat.le_of_ble_eq_true rfl) (zat zrX7_fail_0_ok 2 rfl) (fun H locs hP hD hS => ?_)
  obtain ⟨hP, hD⟩ := pd_mk (bX7 a0 ur kr (r_r.1, r_r.2.1, r_r.2.2.1, r_r.2.2.2.1, r_r.2.2.2.2.1, r_r.2.2.2.2.2.1, r_r.2.2.2.2.2.2.1, r_r.2.2.2.2.2.2.2.1, r_r.2.2.2.2.2.2.2.2.1, r_r.2.2.2.2.2.2.2.2.2.1, k1, r_r.2.2.2.2.2.2.2.2.2.2.2) []) hP hD
  refine lv_aload_n hx hb (zat zrX7_fail_0_ok 3 rfl) rfl (lv_at hl 0 rfl) ?_
  refine lv_aload_n hx hb (zat zrX7_fail_0_ok 4 rfl) rfl (lv_at hl 0 rfl) ?_
  refine va_get (D := (dC, dI)) (ci := 5) (v := .int r_r.2.2.2.2.1) (C := RX7) (T := TX7) (N := 12) hx hb hts ifX7_fail_X7 hown hK hP 0 rfl rfl 4 (by decide) (hts (.fieldLink RX7 25 "HookPier$Reader" "start" "I") (List.mem_of_getElem? (i := 2) rfl)) (fun _ h9 => h9) rfl (zat zrX7_fail_0_ok 5 rfl) ?_
  refine va_put (D := (dC, dI)) (ci := 5) (v := .int r_r.2.2.2.2.1) (ty := .int) (C := RX7) (T := TX7) (N := 12) hx hb hts ifX7_fail_X7 tyX7 tyX7_ok nmX7 hown hK hP hD hS 0 rfl rfl 11 (by decide) (hts (.fieldLink RX7 48 "HookPier$Reader" "place" "I") (List.mem_of_getElem? (i := 3) rfl)) (fun _ h9 => h9) rfl (by decide +kernel) rfl rfl (Nat.le_of_ble_eq_true rfl) (zat zrX7_fail_0_ok 6 rfl) (fun H locs hP hD hS => ?_)
  obtain ⟨hP, hD⟩ := pd_mk (bX7 a0 ur kr (r_r.1, r_r.2.1, r_r.2.2.1, r_r.2.2.2.1, r_r.2.2.2.2.1, r_r.2.2.2.2.2.1, r_r.2.2.2.2.2.2.1, r_r.2.2.2.2.2.2.2.1, r_r.2.2.2.2.2.2.2.2.1, r_r.2.2.2.2.2.2.2.2.2.1, k1, r_r.2.2.2.2.1) []) hP hD
  refine lv_iconst (v := 0) hx hb (zat zrX7_fail_0_ok 7 rfl) (by decide) ?_
  obtain rfl := h
  obtain ⟨hP9, hD9⟩ := pd_sub (bX7 a0 ur kr (r_r.1, r_r.2.1, r_r.2.2.1, r_r.2.2.2.1, r_r.2.2.2.2.1, r_r.2.2.2.2.2.1, r_r.2.2.2.2.2.2.1, r_r.2.2.2.2.2.2.2.1, r_r.2.2.2.2.2.2.2.2.1, r_r.2.2.2.2.2.2.2.2.2.1, k1, r_r.2.2.2.2.1) []) [0, 1, 2, 3] hP hD (by decide) rfl
  have hK9 := hK.sub (tys' := []) [] rfl
  rw [hQQ]
  exact W.zret (v := (0 : Int32)) hx hb hr rfl (fun t ht hW => ⟨⟨(0 : Int32), (), rfl, ⟨rfl, (by decide)⟩, by rw [ht]; exact hP9, va_K.moved hW.alike hK9, hD9⟩, hS.F ht⟩) hS.2.2 (zat zrX7_fail_0_ok 8 rfl)
noncomputable def zrX10_within_0 : List ZR := zc 0 true (.iload_n 0) 1 (zc 1 true (.iload_n 1) 1 (zc 2 true (.if_icmp .lt 12) 3 (zc 5 true (.iload_n 0) 1 (zc 6 true (.iload_n 2) 1 (zc 7 true (.if_icmp .gt 7) 3 (zc 10 true (.iconst 1) 1 (zc 11 true (.goto 4) 3 (zc 14 true (.iconst 0) 1 (zc 15 true (.ireturn) 1 ([]))))))))))
theorem zrX10_within_0_ok : zck 0 ((zby cX10_within).drop 0) zrX10_within_0 = true := by decide +kernel
def vfX10_within : List Cond := .code yX10_within cX10_within 3 (some .boolean) :: ([])
theorem qfX10_within : Good vfX10_within := gd_cons (by decide +kernel) (gd_dec (by decide +kernel) : Good [])
set_option maxHeartbeats 2000000 in
set_option maxRecDepth 100000 in
theorem kfX10_within (l : Launch) (dC : Nat → ClassId) (dI : Nat → Nat → Nat) (k0 : Int32) (k1 : Int32) (k2 : Int32) (sz : Nat) (out : Int32) (h : f_X10_within k0 k1 k2 = out) : KDi l yX10_within vfX10_within ({ frames := 0, cells := 0, slots := 0, locals := 0 }) (dC, dI) [.int k0, .int k1, .int k2] sz [] ([]) (fun (r : Int32) _ => r = out ∧ (0 ≤ r.toInt ∧ r.toInt ≤ 1)) 0 0 := by
  refine Met.ofW (cc := cX10_within) (maxL := 3) (ret := (some .boolean)) (by decide) rfl ?_
  intro p e s m args below meth c s₁ B0 hml hv
  obtain ⟨rfl, hsz, hP, hK, hD0, hN⟩ := hv
  have hx := B0.exec
  have hb := B0.bytes
  have hr := B0.returns
  have hts := atoms_spec (ws := vfX10_within) B0.pre
  have hown : s.vm.findClass RX10 = some m.cls := findClass_of_methodNamed B0.named
  have hlocks := B0.notSynchronized
  subst hsz
  have hD := hD0.self (sz := s.heap.size)
  generalize hAe : va_A [] s.heap.size = A at hD ⊢
  have hA : ∀ q : Nat, s.heap.size ≤ q → A q := fun q h => by rw [← hAe]; exact Or.inr h
  have hS : va_S A s.heap s.heap [] := va_S.rf
  have hP : va_P (dC, dI) vwCl [] s.heap := hP
  have hl := lv_entry ([.int k0, .int k1, .int k2]) (n := 3) (Nat.le_of_ble_eq_true rfl)
  rw [lg_entry_eq]
  generalize (lg_sl ([.int k0, .int k1, .int k2]) ++ List.replicate (3 - (lg_sl ([.int k0, .int k1, .int k2])).length) Slot.unset).toArray = ls at hl ⊢
  have hl : lv_has ls 3 [(0, .int k0), (1, .int k1), (2, .int k2)] := hl
  refine W_q (fun QQ hQQ => ?_)
  rw [f_X10_within] at h
  refine lv_iload_n hx hb (zat zrX10_within_0_ok 0 rfl) rfl (lv_at hl 0 rfl) ?_
  refine lv_iload_n hx hb (zat zrX10_within_0_ok 1 rfl) rfl (lv_at hl 1 rfl) ?_
  refine lv_icmp_lt (tgt := 14) hx hb (zat zrX10_within_0_ok 2 rfl) (by decide) (fun c2 => ?_) (fun c2 => ?_)
  · have h := (if_pos c2).symm.trans h
    refine lv_iconst (v := 0) hx hb (zat zrX10_within_0_ok 8 rfl) (by decide) ?_
    obtain rfl := h
    obtain ⟨hP9, hD9⟩ := pd_sub [] [] hP hD (by decide) rfl
    have hK9 := hK.sub (tys' := []) [] rfl
    rw [hQQ]
    exact W.zret (v := (0 : Int32)) hx hb hr rfl (fun t ht hW => ⟨⟨(0 : Int32), (), rfl, ⟨rfl, (by decide)⟩, by rw [ht]; exact hP9, va_K.moved hW.alike hK9, hD9⟩, hS.F ht⟩) hS.2.2 (zat zrX10_within_0_ok 9 rfl)
  · have h := (if_neg c2).symm.trans h
    refine lv_iload_n hx hb (zat zrX10_within_0_ok 3 rfl) rfl (lv_at hl 0 rfl) ?_
    refine lv_iload_n hx hb (zat zrX10_within_0_ok 4 rfl) rfl (lv_at hl 2 rfl) ?_
    refine lv_icmp_gt (tgt := 14) hx hb (zat zrX10_within_0_ok 5 rfl) (by decide) (fun c7 => ?_) (fun c7 => ?_)
    · have h := (if_pos c7).symm.trans h
      refine lv_iconst (v := 0) hx hb (zat zrX10_within_0_ok 8 rfl) (by decide) ?_
      obtain rfl := h
      obtain ⟨hP9, hD9⟩ := pd_sub [] [] hP hD (by decide) rfl
      have hK9 := hK.sub (tys' := []) [] rfl
      rw [hQQ]
      exact W.zret (v := (0 : Int32)) hx hb hr rfl (fun t ht hW => ⟨⟨(0 : Int32), (), rfl, ⟨rfl, (by decide)⟩, by rw [ht]; exact hP9, va_K.moved hW.alike hK9, hD9⟩, hS.F ht⟩) hS.2.2 (zat zrX10_within_0_ok 9 rfl)
    · have h := (if_neg c7).symm.trans h
      refine lv_iconst (v := 1) hx hb (zat zrX10_within_0_ok 6 rfl) (by decide) ?_
      refine lv_goto (tgt := 15) hx hb (zat zrX10_within_0_ok 7 rfl) (by decide) ?_
      obtain rfl := h
      obtain ⟨hP9, hD9⟩ := pd_sub [] [] hP hD (by decide) rfl
      have hK9 := hK.sub (tys' := []) [] rfl
      rw [hQQ]
      exact W.zret (v := (1 : Int32)) hx hb hr rfl (fun t ht hW => ⟨⟨(1 : Int32), (), rfl, ⟨rfl, (by decide)⟩, by rw [ht]; exact hP9, va_K.moved hW.alike hK9, hD9⟩, hS.F ht⟩) hS.2.2 (zat zrX10_within_0_ok 9 rfl)
noncomputable def zrX7_takeWhole_0 : List ZR := zc 0 true (.aload_n 0) 1 (zc 1 true (.getfield 22) 3 (zc 4 true (.iconst 2) 1 (zc 5 true (.if_icmp .eq 9) 3 (zc 8 true (.aload_n 0) 1 (zc 9 true (.iconst 1) 1 (zc 10 true (.invokevirtual 72) 3 (zc 13 true (.ireturn) 1 (zc 14 true (.iconst 0) 1 (zc 15 true (.istore_n 3) 1 (zc 16 true (.aload_n 0) 1 (zc 17 true (.getfield 25) 3 (zc 20 true (.istore 4) 2 (zc 22 true (.iload 4) 2 (zc 24 true (.aload_n 0) 1 (zc 25 true (.getfield 28) 3 (zc 28 true (.if_icmp .ge 25) 3 (zc 31 true (.bipush 10) 2 (zc 33 true (.iload_n 3) 1 (zc 34 true (.imul) 1 (zc 35 true (.aload_n 0) 1 (zc 36 true (.getfield 9) 3 (zc 39 true (.iload 4) 2 (zc 41 true (.baload) 1 (zc 42 true (.iadd) 1 (zc 43 true (.bipush 48) 2 (zc 45 true (.isub) 1 (zc 46 true (.istore_n 3) 1 (zc 47 true (.iinc 4 1) 3 (zc 50 true (.goto (-28)) 3 (zc 53 true (.iload_n 3) 1 (zc 54 true (.iload_n 1) 1 (zc 55 true (.iload_n 2) 1 (zc 56 true (.invokestatic 204) 3 (zc 59 true (.ifCond .ne 9) 3 (zc 62 true (.aload_n 0) 1 (zc 63 true (.iconst 4) 1 (zc 64 true (.invokevirtual 72) 3 (zc 67 true (.ireturn) 1 (zc 68 true (.aload_n 0) 1 (zc 69 true (.iload_n 3) 1 (zc 70 true (.putfield 31) 3 (zc 73 true (.aload_n 0) 1 (zc 74 true (.invokevirtual 62) 3 (zc 77 true (.iconst 1) 1 (zc 78 true (.ireturn) 1 ([]))))))))))))))))))))))))))))))))))))))))))))))
theorem zrX7_takeWhole_0_ok : zck 0 ((zby cX7_takeWhole).drop 0) zrX7_takeWhole_0 = true := by decide +kernel
def vfX7_takeWhole : List Cond := List.cons (.code yX7_takeWhole cX7_takeWhole 5 (some .boolean)) (apW [.fieldLink RX7 22 "HookPier$Reader" "token" "I", .fieldLink RX7 25 "HookPier$Reader" "start" "I", .fieldLink RX7 28 "HookPier$Reader" "behind" "I", .initialized RX10, .static yX10_within, .fieldLink RX7 31 "HookPier$Reader" "value" "I", .methodLink RX7 62 yX7_advance, .instanceMethod yX7_advance, .selects RX7 yX7_advance yX7_advance, .initialized RX7, .methodLink RX7 72 yX7_fail, .instanceMethod yX7_fail, .selects RX7 yX7_fail yX7_fail, .fieldLink RX7 9 "HookPier$Reader" "text" "[B"] (apW wsX70 (apW vfX10_within (apW vfX7_advance (vfX7_fail)))))
theorem ifX7_takeWhole_X7 : ∀ w ∈ wsX70, w ∈ vfX7_takeWhole := fun _ h => (List.mem_cons_of_mem _ (List.mem_append_right _ (List.mem_append_left _ h)))
theorem qfX7_takeWhole : Good vfX7_takeWhole := gd_cons (by decide +kernel) (gd_app (gd_dec (by decide +kernel) : Good [.fieldLink RX7 22 "HookPier$Reader" "token" "I", .fieldLink RX7 25 "HookPier$Reader" "start" "I", .fieldLink RX7 28 "HookPier$Reader" "behind" "I", .initialized RX10, .static yX10_within, .fieldLink RX7 31 "HookPier$Reader" "value" "I", .methodLink RX7 62 yX7_advance, .instanceMethod yX7_advance, .selects RX7 yX7_advance yX7_advance, .initialized RX7, .methodLink RX7 72 yX7_fail, .instanceMethod yX7_fail, .selects RX7 yX7_fail yX7_fail, .fieldLink RX7 9 "HookPier$Reader" "text" "[B"]) (gd_app qsX7 (gd_app qfX10_within (gd_app qfX7_advance qfX7_fail))))
theorem gfX7_takeWhole_0 : GoodIn vfX7_takeWhole vfX10_within := (goodIn_m (fun _ h => (List.mem_cons_of_mem _ (List.mem_append_right _ (List.mem_append_right _ (List.mem_append_left _ h))))) qfX10_within)
theorem gfX7_takeWhole_1 : GoodIn vfX7_takeWhole (wsV RX7 62 RX7 yX7_advance vfX7_advance) := goodIn_app (goodIn_r [.methodLink RX7 62 yX7_advance, .instanceMethod yX7_advance, .selects RX7 yX7_advance yX7_advance, .initialized RX7] [7, 8, 9, 10] rfl (by decide +kernel)) (goodIn_m (fun _ h => (List.mem_cons_of_mem _ (List.mem_append_right _ (List.mem_append_right _ (List.mem_append_right _ (List.mem_append_left _ h)))))) qfX7_advance)
theorem gfX7_takeWhole_2 : GoodIn vfX7_takeWhole (wsV RX7 72 RX7 yX7_fail vfX7_fail) := goodIn_app (goodIn_r [.methodLink RX7 72 yX7_fail, .instanceMethod yX7_fail, .selects RX7 yX7_fail yX7_fail, .initialized RX7] [11, 12, 13, 10] rfl (by decide +kernel)) (goodIn_m (fun _ h => (List.mem_cons_of_mem _ (List.mem_append_right _ (List.mem_append_right _ (List.mem_append_right _ (List.mem_append_right _ h)))))) qfX7_fail)
set_option maxHeartbeats 2000000 in
set_option maxRecDepth 100000 in
theorem kfX7_takeWhole (l : Launch) (dC : Nat → ClassId) (dI : Nat → Nat → Nat) (a0 : Nat) (k1 : Int32) (k2 : Int32) (ur : Nat → Nat) (kr : Nat → ClassId) (r_r : TX7_r) (sz : Nat) (out : (Int32 × TX7_r)) (h : f_X7_takeWhole k1 k2 r_r = some out) : KCi l yX7_takeWhole vfX7_takeWhole ({ frames := 2, cells := 0, slots := 0, locals := 41 }) (dC, dI) [.ref a0, .int k1, .int k2] sz (bX7 a0 ur kr r_r []) (tX7 kr ([])) (fun (r : Int32) _ => r = out.1 ∧ (0 ≤ r.toInt ∧ r.toInt ≤ 1)) (bX7 a0 ur kr out.2 []) 0 0 := by
  refine Met.ofW (cc := cX7_takeWhole) (maxL := 5) (ret := (some .boolean)) (by decide) rfl ?_
  intro p e s m args below meth c s₁ B0 hml hv
  obtain ⟨rfl, hsz, hP, hK, hD0, hN⟩ := hv
  have hx := B0.exec
  have hb := B0.bytes
  have hr := B0.returns
  have hts := atoms_spec (ws := vfX7_takeWhole) B0.pre
  have hown : s.vm.findClass RX7 = some m.cls := findClass_of_methodNamed B0.named
  have hlocks := B0.notSynchronized
  subst hsz
  have hD := hD0.self (sz := s.heap.size)
  generalize hAe : va_A (bX7 a0 ur kr r_r []) s.heap.size = A at hD ⊢
  have hA : ∀ q : Nat, s.heap.size ≤ q → A q := fun q h => by rw [← hAe]; exact Or.inr h
  have hS : va_S A s.heap s.heap [] := va_S.rf
  have hP : va_P (dC, dI) vwCl (bX7 a0 ur kr r_r []) s.heap := hP
  have hl := lv_entry ([.ref a0, .int k1, .int k2]) (n := 5) (Nat.le_of_ble_eq_true rfl)
  rw [lg_entry_eq]
  generalize (lg_sl ([.ref a0, .int k1, .int k2]) ++ List.replicate (5 - (lg_sl ([.ref a0, .int k1, .int k2])).length) Slot.unset).toArray = ls at hl ⊢
  have hl : lv_has ls 5 [(0, .ref a0), (1, .int k1), (2, .int k2)] := hl
  refine W_q (fun QQ hQQ => ?_)
  rw [f_X7_takeWhole] at h
  refine lv_aload_n hx hb (zat zrX7_takeWhole_0_ok 0 rfl) rfl (lv_at hl 0 rfl) ?_
  refine va_get (D := (dC, dI)) (ci := 5) (v := .int r_r.2.2.2.1) (C := RX7) (T := TX7) (N := 12) hx hb hts ifX7_takeWhole_X7 hown hK hP 0 rfl rfl 3 (by decide) (hts (.fieldLink RX7 22 "HookPier$Reader" "token" "I") (List.mem_of_getElem? (i := 1) rfl)) (fun _ h9 => h9) rfl (zat zrX7_takeWhole_0_ok 1 rfl) ?_
  refine lv_iconst (v := 2) hx hb (zat zrX7_takeWhole_0_ok 2 rfl) (by decide) ?_
  refine lv_icmp_eq (tgt := 14) hx hb (zat zrX7_takeWhole_0_ok 3 rfl) (by decide) (fun c5 => ?_) (fun c5 => ?_)
  · have h := (if_pos c5).symm.trans h
    refine lv_iconst (v := 0) hx hb (zat zrX7_takeWhole_0_ok 8 rfl) (by decide) ?_
    refine lv_istore_n (lv' := [(3, .int 0), (0, .ref a0), (1, .int k1), (2, .int k2)]) hx hb (zat zrX7_takeWhole_0_ok 9 rfl) rfl hl (by decide) rfl (fun ls hl => ?_)
    refine lv_aload_n hx hb (zat zrX7_takeWhole_0_ok 10 rfl) rfl (lv_at hl 1 rfl) ?_
    refine va_get (D := (dC, dI)) (ci := 5) (v := .int r_r.2.2.2.2.1) (C := RX7) (T := TX7) (N := 12) hx hb hts ifX7_takeWhole_X7 hown hK hP 0 rfl rfl 4 (by decide) (hts (.fieldLink RX7 25 "HookPier$Reader" "start" "I") (List.mem_of_getElem? (i := 2) rfl)) (fun _ h9 => h9) rfl (zat zrX7_takeWhole_0_ok 11 rfl) ?_
    refine lv_istore (lv' := [(4, .int r_r.2.2.2.2.1), (3, .int 0), (0, .ref a0), (1, .int k1), (2, .int k2)]) hx hb (zat zrX7_takeWhole_0_ok 12 rfl) hl (by decide) rfl (fun ls hl => ?_)
    have L22 : ∀ (n22 : Nat) (v22_l4 : Int32) (v22_l3 : Int32) (H : Heap) (locs : List Loc) (ls : Array Slot), f_X7_takeWhole_L22 k1 k2 r_r n22 v22_l4 v22_l3 = some out → va_P (dC, dI) vwCl (bX7 a0 ur kr r_r []) H → va_D A (bX7 a0 ur kr r_r []) → va_S A s.heap H locs → lv_has ls 5 [(4, .int v22_l4), (3, .int v22_l3), (0, .ref a0), (1, .int k1), (2, .int k2)] → W p l e (headSpec vfX7_takeWhole { frames := 2, cells := 0, slots := 0, locals := 41 }).room s m ([.ref a0, .int k1, .int k2]).toArray below meth c H locs 0 0 QQ (F0 m 22 ls []) := by
      intro n22
      induction n22 with
      | zero =>
        intro v22_l4 v22_l3 H locs ls h  _ _ _ _
        rw [f_X7_takeWhole_L22] at h
        cases h
      | succ n22 ih22 =>
        intro v22_l4 v22_l3 H locs ls h  hP hD hS hl
        rw [f_X7_takeWhole_L22] at h
        refine lv_iload hx hb (zat zrX7_takeWhole_0_ok 13 rfl) (lv_at hl 0 rfl) ?_
        refine lv_aload_n hx hb (zat zrX7_takeWhole_0_ok 14 rfl) rfl (lv_at hl 2 rfl) ?_
        refine va_get (D := (dC, dI)) (ci := 5) (v := .int r_r.2.2.2.2.2.1) (C := RX7) (T := TX7) (N := 12) hx hb hts ifX7_takeWhole_X7 hown hK hP 0 rfl rfl 5 (by decide) (hts (.fieldLink RX7 28 "HookPier$Reader" "behind" "I") (List.mem_of_getElem? (i := 3) rfl)) (fun _ h9 => h9) rfl (zat zrX7_takeWhole_0_ok 15 rfl) ?_
        refine lv_icmp_ge (tgt := 53) hx hb (zat zrX7_takeWhole_0_ok 16 rfl) (by decide) (fun c28 => ?_) (fun c28 => ?_)
        · have h := (if_pos c28).symm.trans h
          refine lv_iload_n hx hb (zat zrX7_takeWhole_0_ok 30 rfl) rfl (lv_at hl 1 rfl) ?_
          refine lv_iload_n hx hb (zat zrX7_takeWhole_0_ok 31 rfl) rfl (lv_at hl 3 rfl) ?_
          refine lv_iload_n hx hb (zat zrX7_takeWhole_0_ok 32 rfl) rfl (lv_at hl 4 rfl) ?_
          obtain ⟨o56, eo56⟩ : ∃ o, o = f_X10_within v22_l3 k1 k2 := ⟨_, rfl⟩
          have h := nm_of h o56 eo56
          refine ck_i (wc := []) (wr := (bX7 a0 ur kr r_r [])) hP hD hK hS hA [] [0, 1, 2, 3] rfl rfl (by decide) (by decide) (by decide) (fun hPc hDc => (va_runSN (As := [.int v22_l3, .int k1, .int k2]) (rest := []) ⟨hx, hb, hml, hown, hts⟩ (kfX10_within l dC dI v22_l3 k1 k2 H.size o56 eo56.symm) ⟨va_cnB 3 hts gfX7_takeWhole_0 rfl rfl rfl (hN.1 (.methodLinkNest RX7 204 yX10_within "HookPier") (List.mem_of_getElem? (i := 8) rfl)) (hts (.initialized RX10) (List.mem_of_getElem? (i := 4) rfl)) (by decide +kernel) ⟨(Nat.le_of_ble_eq_true rfl), (Nat.le_of_ble_eq_true rfl)⟩, (hts (.static yX10_within) (List.mem_of_getElem? (i := 5) rfl)), trivial⟩ (PS hPc (hK.sub (tys' := ([])) [] rfl) hDc hN) rfl rfl hl.1 rfl (lv_room (Nat.le_of_ble_eq_true rfl)) (zat zrX7_takeWhole_0_ok 33 rfl) ⟨(Nat.le_of_ble_eq_true rfl), (Nat.le_of_ble_eq_true rfl)⟩)) (fun r56 _ H locs hw hP hD _ hS => ?_)
          obtain ⟨hw, br56⟩ := hw
          obtain rfl := hw.symm
          obtain ⟨hP, hD⟩ := pd_mk (bX7 a0 ur kr r_r []) hP hD
          refine lv_if_ne (tgt := 68) hx hb (zat zrX7_takeWhole_0_ok 34 rfl) (by decide) (fun c59 => ?_) (fun c59 => ?_)
          · have h := (if_neg c59).symm.trans h
            refine lv_aload_n hx hb (zat zrX7_takeWhole_0_ok 39 rfl) rfl (lv_at hl 2 rfl) ?_
            refine lv_iload_n hx hb (zat zrX7_takeWhole_0_ok 40 rfl) rfl (lv_at hl 1 rfl) ?_
            refine va_put (D := (dC, dI)) (ci := 5) (v := .int v22_l3) (ty := .int) (C := RX7) (T := TX7) (N := 12) hx hb hts ifX7_takeWhole_X7 tyX7 tyX7_ok nmX7 hown hK hP hD hS 0 rfl rfl 6 (by decide) (hts (.fieldLink RX7 31 "HookPier$Reader" "value" "I") (List.mem_of_getElem? (i := 6) rfl)) (fun _ h9 => h9) rfl (by decide +kernel) rfl rfl (Nat.le_of_ble_eq_true rfl) (zat zrX7_takeWhole_0_ok 41 rfl) (fun H locs hP hD hS => ?_)
            obtain ⟨hP, hD⟩ := pd_mk (bX7 a0 ur kr (r_r.1, r_r.2.1, r_r.2.2.1, r_r.2.2.2.1, r_r.2.2.2.2.1, r_r.2.2.2.2.2.1, v22_l3, r_r.2.2.2.2.2.2.2) []) hP hD
            refine lv_aload_n hx hb (zat zrX7_takeWhole_0_ok 42 rfl) rfl (lv_at hl 2 rfl) ?_
            obtain ⟨o74, eo74, h⟩ := bd_of h
            refine ck_v (wc := (bX7 a0 ur kr (r_r.1, r_r.2.1, r_r.2.2.1, r_r.2.2.2.1, r_r.2.2.2.2.1, r_r.2.2.2.2.2.1, v22_l3, r_r.2.2.2.2.2.2.2) [])) (wr := []) hP hD hK hS hA [0, 1, 2, 3] [] rfl rfl (by decide) (by decide) (by decide) (fun hPc hDc => (va_runV (As := []) (rest := []) ⟨hx, hb, hml, hown, hts⟩ (kfX7_advance l dC dI a0 ur kr (r_r.1, r_r.2.1, r_r.2.2.1, r_r.2.2.2.1, r_r.2.2.2.2.1, r_r.2.2.2.2.2.1, v22_l3, r_r.2.2.2.2.2.2.2) H.size o74 eo74) (cwV 0 hts gfX7_takeWhole_1 rfl rfl rfl (by decide +kernel) ⟨(Nat.le_of_ble_eq_true rfl), (Nat.le_of_ble_eq_true rfl)⟩) (PV hPc (hK.sub (tys' := (tX7 kr ([]))) [0, 1, 2] rfl) hDc hN 0 rfl rfl) rfl rfl hl.1 rfl (lv_room (Nat.le_of_ble_eq_true rfl)) (zat zrX7_takeWhole_0_ok 43 rfl) ⟨(Nat.le_of_ble_eq_true rfl), (Nat.le_of_ble_eq_true rfl)⟩)) (fun _ H locs hw hP hD _ hS => ?_)
            obtain ⟨hP, hD⟩ := pd_mk (bX7 a0 ur kr o74 []) hP hD
            refine lv_iconst (v := 1) hx hb (zat zrX7_takeWhole_0_ok 44 rfl) (by decide) ?_
            obtain rfl := Option.some.inj h
            obtain ⟨hP9, hD9⟩ := pd_sub (bX7 a0 ur kr o74 []) [0, 1, 2, 3] hP hD (by decide) rfl
            have hK9 := hK.sub (tys' := []) [] rfl
            rw [hQQ]
            exact W.zret (v := (1 : Int32)) hx hb hr rfl (fun t ht hW => ⟨⟨(1 : Int32), (), rfl, ⟨rfl, (by decide)⟩, by rw [ht]; exact hP9, va_K.moved hW.alike hK9, hD9⟩, hS.F ht⟩) hS.2.2 (zat zrX7_takeWhole_0_ok 45 rfl)
          · have h := (if_pos c59).symm.trans h
            refine lv_aload_n hx hb (zat zrX7_takeWhole_0_ok 35 rfl) rfl (lv_at hl 2 rfl) ?_
            refine lv_iconst (v := 4) hx hb (zat zrX7_takeWhole_0_ok 36 rfl) (by decide) ?_
            obtain ⟨o64, eo64⟩ : ∃ o, o = f_X7_fail (4 : Int32) r_r := ⟨_, rfl⟩
            have h := nm_of h o64 eo64
            refine ck_i (wc := (bX7 a0 ur kr r_r [])) (wr := []) hP hD hK hS hA [0, 1, 2, 3] [] rfl rfl (by decide) (by decide) (by decide) (fun hPc hDc => (va_runV (As := [.int 4]) (rest := []) ⟨hx, hb, hml, hown, hts⟩ (kfX7_fail l dC dI a0 (4 : Int32) ur kr r_r H.size o64 eo64.symm) (cwV 1 hts gfX7_takeWhole_2 rfl rfl rfl (by decide +kernel) ⟨(Nat.le_of_ble_eq_true rfl), (Nat.le_of_ble_eq_true rfl)⟩) (PV hPc (hK.sub (tys' := (tX7 kr ([]))) [0, 1, 2] rfl) hDc hN 0 rfl rfl) rfl rfl hl.1 rfl (lv_room (Nat.le_of_ble_eq_true rfl)) (zat zrX7_takeWhole_0_ok 37 rfl) ⟨(Nat.le_of_ble_eq_true rfl), (Nat.le_of_ble_eq_true rfl)⟩)) (fun r64 _ H locs hw hP hD _ hS => ?_)
            obtain ⟨hw, br64⟩ := hw
            obtain rfl := hw
            obtain ⟨hP, hD⟩ := pd_mk (bX7 a0 ur kr o64 []) hP hD
            obtain rfl := Option.some.inj h
            obtain ⟨hP9, hD9⟩ := pd_sub (bX7 a0 ur kr o64 []) [0, 1, 2, 3] hP hD (by decide) rfl
            have hK9 := hK.sub (tys' := []) [] rfl
            rw [hQQ]
            exact W.zret (v := (0 : Int32)) hx hb hr rfl (fun t ht hW => ⟨⟨(0 : Int32), (), rfl, ⟨rfl, (by decide)⟩, by rw [ht]; exact hP9, va_K.moved hW.alike hK9, hD9⟩, hS.F ht⟩) hS.2.2 (zat zrX7_takeWhole_0_ok 38 rfl)
        · have h := (if_neg c28).symm.trans h
          refine lv_bipush (v := 10) hx hb (zat zrX7_takeWhole_0_ok 17 rfl) (by decide) ?_
          refine lv_iload_n hx hb (zat zrX7_takeWhole_0_ok 18 rfl) rfl (lv_at hl 1 rfl) ?_
          refine lv_imul hx hb (zat zrX7_takeWhole_0_ok 19 rfl) ?_
          refine lv_aload_n hx hb (zat zrX7_takeWhole_0_ok 20 rfl) rfl (lv_at hl 2 rfl) ?_
          refine va_get (D := (dC, dI)) (ci := 5) (v := .ref (ur 0)) (C := RX7) (T := TX7) (N := 12) hx hb hts ifX7_takeWhole_X7 hown hK hP 0 rfl rfl 0 (by decide) (hts (.fieldLink RX7 9 "HookPier$Reader" "text" "[B") (List.mem_of_getElem? (i := 14) rfl)) (fun _ h9 => h9) rfl (zat zrX7_takeWhole_0_ok 21 rfl) ?_
          refine lv_iload hx hb (zat zrX7_takeWhole_0_ok 22 rfl) (lv_at hl 0 rfl) ?_
          obtain ⟨hg41, h⟩ := gA_of h
          refine va_bald hx hb hK hP 1 0 rfl rfl hg41 (zat zrX7_takeWhole_0_ok 23 rfl) ?_
          refine lv_iadd hx hb (zat zrX7_takeWhole_0_ok 24 rfl) ?_
          refine lv_bipush (v := 48) hx hb (zat zrX7_takeWhole_0_ok 25 rfl) (by decide) ?_
          refine lv_isub hx hb (zat zrX7_takeWhole_0_ok 26 rfl) ?_
          refine lv_topi (fun z45 ez45 => ?_)
          have h := nm_of h z45 ez45
          refine lv_istore_n (lv' := [(3, .int z45), (4, .int v22_l4), (0, .ref a0), (1, .int k1), (2, .int k2)]) hx hb (zat zrX7_takeWhole_0_ok 27 rfl) rfl hl (by decide) rfl (fun ls hl => ?_)
          refine lv_iinc (v := (v22_l4 + (1 : Int32))) (lv' := [(4, .int (v22_l4 + (1 : Int32))), (3, .int z45), (0, .ref a0), (1, .int k1), (2, .int k2)]) hx hb (zat zrX7_takeWhole_0_ok 28 rfl) hl (k := 1) rfl rfl (by decide) rfl (fun ls hl => ?_)
          refine lv_goto (tgt := 22) hx hb (zat zrX7_takeWhole_0_ok 29 rfl) (by decide) ?_
          exact ih22 (v22_l4 + (1 : Int32)) z45 H _ ls h  hP hD hS (lv_sub hl [0, 1, 2, 3, 4] rfl)
    exact L22 FU r_r.2.2.2.2.1 (0 : Int32) s.heap _ ls h  hP hD hS (lv_sub hl [0, 1, 2, 3, 4] rfl)
  · have h := (if_neg c5).symm.trans h
    refine lv_aload_n hx hb (zat zrX7_takeWhole_0_ok 4 rfl) rfl (lv_at hl 0 rfl) ?_
    refine lv_iconst (v := 1) hx hb (zat zrX7_takeWhole_0_ok 5 rfl) (by decide) ?_
    obtain ⟨o10, eo10⟩ : ∃ o, o = f_X7_fail (1 : Int32) r_r := ⟨_, rfl⟩
    have h := nm_of h o10 eo10
    refine ck_i (wc := (bX7 a0 ur kr r_r [])) (wr := []) hP hD hK hS hA [0, 1, 2, 3] [] rfl rfl (by decide) (by decide) (by decide) (fun hPc hDc => (va_runV (As := [.int 1]) (rest := []) ⟨hx, hb, hml, hown, hts⟩ (kfX7_fail l dC dI a0 (1 : Int32) ur kr r_r s.heap.size o10 eo10.symm) (cwV 1 hts gfX7_takeWhole_2 rfl rfl rfl (by decide +kernel) ⟨(Nat.le_of_ble_eq_true rfl), (Nat.le_of_ble_eq_true rfl)⟩) (PV hPc (hK.sub (tys' := (tX7 kr ([]))) [0, 1, 2] rfl) hDc hN 0 rfl rfl) rfl rfl hl.1 rfl (lv_room (Nat.le_of_ble_eq_true rfl)) (zat zrX7_takeWhole_0_ok 6 rfl) ⟨(Nat.le_of_ble_eq_true rfl), (Nat.le_of_ble_eq_true rfl)⟩)) (fun r10 _ H locs hw hP hD _ hS => ?_)
    obtain ⟨hw, br10⟩ := hw
    obtain rfl := hw
    obtain ⟨hP, hD⟩ := pd_mk (bX7 a0 ur kr o10 []) hP hD
    obtain rfl := Option.some.inj h
    obtain ⟨hP9, hD9⟩ := pd_sub (bX7 a0 ur kr o10 []) [0, 1, 2, 3] hP hD (by decide) rfl
    have hK9 := hK.sub (tys' := []) [] rfl
    rw [hQQ]
    exact W.zret (v := (0 : Int32)) hx hb hr rfl (fun t ht hW => ⟨⟨(0 : Int32), (), rfl, ⟨rfl, (by decide)⟩, by rw [ht]; exact hP9, va_K.moved hW.alike hK9, hD9⟩, hS.F ht⟩) hS.2.2 (zat zrX7_takeWhole_0_ok 7 rfl)
noncomputable def zrX7_wordCode_0 : List ZR := zc 0 true (.lconst 0) 1 (zc 1 true (.lstore_n 1) 1 (zc 2 true (.aload_n 0) 1 (zc 3 true (.getfield 25) 3 (zc 6 true (.istore_n 3) 1 (zc 7 true (.iload_n 3) 1 (zc 8 true (.aload_n 0) 1 (zc 9 true (.getfield 28) 3 (zc 12 true (.if_icmp .ge 29) 3 (zc 15 true (.ldc2_w 241) 3 (zc 18 true (.lload_n 1) 1 (zc 19 true (.lmul) 1 (zc 20 true (.aload_n 0) 1 (zc 21 true (.getfield 9) 3 (zc 24 true (.iload_n 3) 1 (zc 25 true (.baload) 1 (zc 26 true (.i2l) 1 (zc 27 true (.ladd) 1 (zc 28 true (.ldc2_w 243) 3 (zc 31 true (.lsub) 1 (zc 32 true (.lconst 1) 1 (zc 33 true (.ladd) 1 (zc 34 true (.lstore_n 1) 1 (zc 35 true (.iinc 3 1) 3 (zc 38 true (.goto (-31)) 3 (zc 41 true (.lload_n 1) 1 (zc 42 true (.lreturn) 1 ([])))))))))))))))))))))))))))
theorem zrX7_wordCode_0_ok : zck 0 ((zby cX7_wordCode).drop 0) zrX7_wordCode_0 = true := by decide +kernel
def vfX7_wordCode : List Cond := List.cons (.code yX7_wordCode cX7_wordCode 4 (some .long)) (apW [.fieldLink RX7 25 "HookPier$Reader" "start" "I", .fieldLink RX7 28 "HookPier$Reader" "behind" "I", .constantLong RX7 241 (32), .fieldLink RX7 9 "HookPier$Reader" "text" "[B", .constantLong RX7 243 (97)] (wsX70))
theorem ifX7_wordCode_X7 : ∀ w ∈ wsX70, w ∈ vfX7_wordCode := fun _ h => (List.mem_cons_of_mem _ (List.mem_append_right _ h))
theorem qfX7_wordCode : Good vfX7_wordCode := gd_cons (by decide +kernel) (gd_app (gd_dec (by decide +kernel) : Good [.fieldLink RX7 25 "HookPier$Reader" "start" "I", .fieldLink RX7 28 "HookPier$Reader" "behind" "I", .constantLong RX7 241 (32), .fieldLink RX7 9 "HookPier$Reader" "text" "[B", .constantLong RX7 243 (97)]) qsX7)
set_option maxHeartbeats 2000000 in
set_option maxRecDepth 100000 in
theorem kfX7_wordCode (l : Launch) (dC : Nat → ClassId) (dI : Nat → Nat → Nat) (a0 : Nat) (ur : Nat → Nat) (kr : Nat → ClassId) (r_r : TX7_r) (sz : Nat) (out : Int64) (h : f_X7_wordCode r_r = some out) : KDl l yX7_wordCode vfX7_wordCode ({ frames := 0, cells := 0, slots := 0, locals := 0 }) (dC, dI) [.ref a0] sz (bX7 a0 ur kr r_r []) (tX7 kr ([])) (fun (r : Int64) _ => r = out) 0 0 := by
  refine Met.ofW (cc := cX7_wordCode) (maxL := 4) (ret := (some .long)) (by decide) rfl ?_
  intro p e s m args below meth c s₁ B0 hml hv
  obtain ⟨rfl, hsz, hP, hK, hD0, hN⟩ := hv
  have hx := B0.exec
  have hb := B0.bytes
  have hr := B0.returns
  have hts := atoms_spec (ws := vfX7_wordCode) B0.pre
  have hown : s.vm.findClass RX7 = some m.cls := findClass_of_methodNamed B0.named
  have hlocks := B0.notSynchronized
  subst hsz
  have hD := hD0.self (sz := s.heap.size)
  generalize hAe : va_A (bX7 a0 ur kr r_r []) s.heap.size = A at hD ⊢
  have hA : ∀ q : Nat, s.heap.size ≤ q → A q := fun q h => by rw [← hAe]; exact Or.inr h
  have hS : va_S A s.heap s.heap [] := va_S.rf
  have hP : va_P (dC, dI) vwCl (bX7 a0 ur kr r_r []) s.heap := hP
  have hl := lv_entry ([.ref a0]) (n := 4) (Nat.le_of_ble_eq_true rfl)
  rw [lg_entry_eq]
  generalize (lg_sl ([.ref a0]) ++ List.replicate (4 - (lg_sl ([.ref a0])).length) Slot.unset).toArray = ls at hl ⊢
  have hl : lv_has ls 4 [(0, .ref a0)] := hl
  refine W_q (fun QQ hQQ => ?_)
  rw [f_X7_wordCode] at h
  refine lv_lconst (v := 0) hx hb (zat zrX7_wordCode_0_ok 0 rfl) (by decide) ?_
  refine lv_lstore_n (lv' := [(1, .long 0), (0, .ref a0)]) hx hb (zat zrX7_wordCode_0_ok 1 rfl) rfl hl (by decide) rfl (fun ls hl => ?_)
  refine lv_aload_n hx hb (zat zrX7_wordCode_0_ok 2 rfl) rfl (lv_at hl 1 rfl) ?_
  refine va_get (D := (dC, dI)) (ci := 5) (v := .int r_r.2.2.2.2.1) (C := RX7) (T := TX7) (N := 12) hx hb hts ifX7_wordCode_X7 hown hK hP 0 rfl rfl 4 (by decide) (hts (.fieldLink RX7 25 "HookPier$Reader" "start" "I") (List.mem_of_getElem? (i := 1) rfl)) (fun _ h9 => h9) rfl (zat zrX7_wordCode_0_ok 3 rfl) ?_
  refine lv_istore_n (lv' := [(3, .int r_r.2.2.2.2.1), (1, .long 0), (0, .ref a0)]) hx hb (zat zrX7_wordCode_0_ok 4 rfl) rfl hl (by decide) rfl (fun ls hl => ?_)
  have L7 : ∀ (n7 : Nat) (v7_l3 : Int32) (v7_l1 : Int64) (H : Heap) (locs : List Loc) (ls : Array Slot), f_X7_wordCode_L7 r_r n7 v7_l3 v7_l1 = some out → va_P (dC, dI) vwCl (bX7 a0 ur kr r_r []) H → va_D A (bX7 a0 ur kr r_r []) → va_S A s.heap H locs → lv_has ls 4 [(3, .int v7_l3), (1, .long v7_l1), (0, .ref a0)] → W p l e (headSpec vfX7_wordCode { frames := 0, cells := 0, slots := 0, locals := 0 }).room s m ([.ref a0]).toArray below meth c H locs 0 0 QQ (F0 m 7 ls []) := by
    intro n7
    induction n7 with
    | zero =>
      intro v7_l3 v7_l1 H locs ls h  _ _ _ _
      rw [f_X7_wordCode_L7] at h
      cases h
    | succ n7 ih7 =>
      intro v7_l3 v7_l1 H locs ls h  hP hD hS hl
      rw [f_X7_wordCode_L7] at h
      refine lv_iload_n hx hb (zat zrX7_wordCode_0_ok 5 rfl) rfl (lv_at hl 0 rfl) ?_
      refine lv_aload_n hx hb (zat zrX7_wordCode_0_ok 6 rfl) rfl (lv_at hl 2 rfl) ?_
      refine va_get (D := (dC, dI)) (ci := 5) (v := .int r_r.2.2.2.2.2.1) (C := RX7) (T := TX7) (N := 12) hx hb hts ifX7_wordCode_X7 hown hK hP 0 rfl rfl 5 (by decide) (hts (.fieldLink RX7 28 "HookPier$Reader" "behind" "I") (List.mem_of_getElem? (i := 2) rfl)) (fun _ h9 => h9) rfl (zat zrX7_wordCode_0_ok 7 rfl) ?_
      refine lv_icmp_ge (tgt := 41) hx hb (zat zrX7_wordCode_0_ok 8 rfl) (by decide) (fun c12 => ?_) (fun c12 => ?_)
      · have h := (if_pos c12).symm.trans h
        refine lv_lload_n hx hb (zat zrX7_wordCode_0_ok 25 rfl) rfl (lv_at hl 1 rfl) ?_
        obtain rfl := Option.some.inj h
        obtain ⟨hP9, hD9⟩ := pd_sub (bX7 a0 ur kr r_r []) [0, 1, 2, 3] hP hD (by decide) rfl
        have hK9 := hK.sub (tys' := []) [] rfl
        rw [hQQ]
        exact W.lret (v := v7_l1) hx hb hr (fun t ht hW => ⟨⟨v7_l1, (), rfl, rfl, by rw [ht]; exact hP9, va_K.moved hW.alike hK9, hD9⟩, hS.F ht⟩) hS.2.2 (zat zrX7_wordCode_0_ok 26 rfl)
      · have h := (if_neg c12).symm.trans h
        refine lv_ldc2 hx hb hown (hts (.constantLong RX7 241 (32)) (List.mem_of_getElem? (i := 3) rfl)) (zat zrX7_wordCode_0_ok 9 rfl) ?_
        refine lv_lload_n hx hb (zat zrX7_wordCode_0_ok 10 rfl) rfl (lv_at hl 1 rfl) ?_
        refine lv_lmul hx hb (zat zrX7_wordCode_0_ok 11 rfl) ?_
        refine lv_aload_n hx hb (zat zrX7_wordCode_0_ok 12 rfl) rfl (lv_at hl 2 rfl) ?_
        refine va_get (D := (dC, dI)) (ci := 5) (v := .ref (ur 0)) (C := RX7) (T := TX7) (N := 12) hx hb hts ifX7_wordCode_X7 hown hK hP 0 rfl rfl 0 (by decide) (hts (.fieldLink RX7 9 "HookPier$Reader" "text" "[B") (List.mem_of_getElem? (i := 4) rfl)) (fun _ h9 => h9) rfl (zat zrX7_wordCode_0_ok 13 rfl) ?_
        refine lv_iload_n hx hb (zat zrX7_wordCode_0_ok 14 rfl) rfl (lv_at hl 0 rfl) ?_
        obtain ⟨hg25, h⟩ := gA_of h
        refine va_bald hx hb hK hP 1 0 rfl rfl hg25 (zat zrX7_wordCode_0_ok 15 rfl) ?_
        refine lv_i2l hx hb (zat zrX7_wordCode_0_ok 16 rfl) rfl ?_
        refine lv_ladd hx hb (zat zrX7_wordCode_0_ok 17 rfl) ?_
        refine lv_topl (fun z27 ez27 => ?_)
        have h := nm_of h z27 ez27
        refine lv_ldc2 hx hb hown (hts (.constantLong RX7 243 (97)) (List.mem_of_getElem? (i := 5) rfl)) (zat zrX7_wordCode_0_ok 18 rfl) ?_
        refine lv_lsub hx hb (zat zrX7_wordCode_0_ok 19 rfl) ?_
        refine lv_lconst (v := 1) hx hb (zat zrX7_wordCode_0_ok 20 rfl) (by decide) ?_
        refine lv_ladd hx hb (zat zrX7_wordCode_0_ok 21 rfl) ?_
        refine lv_lstore_n (lv' := [(1, .long ((z27 - (97 : Int64)) + (1 : Int64))), (3, .int v7_l3), (0, .ref a0)]) hx hb (zat zrX7_wordCode_0_ok 22 rfl) rfl hl (by decide) rfl (fun ls hl => ?_)
        refine lv_iinc (v := (v7_l3 + (1 : Int32))) (lv' := [(3, .int (v7_l3 + (1 : Int32))), (1, .long ((z27 - (97 : Int64)) + (1 : Int64))), (0, .ref a0)]) hx hb (zat zrX7_wordCode_0_ok 23 rfl) hl (k := 1) rfl rfl (by decide) rfl (fun ls hl => ?_)
        refine lv_goto (tgt := 7) hx hb (zat zrX7_wordCode_0_ok 24 rfl) (by decide) ?_
        exact ih7 (v7_l3 + (1 : Int32)) ((z27 - (97 : Int64)) + (1 : Int64)) H _ ls h  hP hD hS (lv_sub hl [0, 1, 2] rfl)
  exact L7 FU r_r.2.2.2.2.1 (0 : Int64) s.heap _ ls h  hP hD hS (lv_sub hl [0, 1, 2] rfl)
noncomputable def zrX7_nameOf_0 : List ZR := zc 0 true (.iconst 0) 1 (zc 1 true (.istore_n 3) 1 (zc 2 true (.iload_n 3) 1 (zc 3 true (.aload_n 0) 1 (zc 4 true (.getfield 42) 3 (zc 7 true (.if_icmp .ge 22) 3 (zc 10 true (.aload_n 0) 1 (zc 11 true (.getfield 34) 3 (zc 14 true (.iload_n 3) 1 (zc 15 true (.laload) 1 (zc 16 true (.lload_n 1) 1 (zc 17 true (.lcmp) 1 (zc 18 true (.ifCond .ne 5) 3 (zc 21 true (.iload_n 3) 1 (zc 22 true (.ireturn) 1 (zc 23 true (.iinc 3 1) 3 (zc 26 true (.goto (-24)) 3 (zc 29 true (.iconst (-1)) 1 (zc 30 true (.ireturn) 1 ([])))))))))))))))))))
theorem zrX7_nameOf_0_ok : zck 0 ((zby cX7_nameOf).drop 0) zrX7_nameOf_0 = true := by decide +kernel
def vfX7_nameOf : List Cond := List.cons (.code yX7_nameOf cX7_nameOf 4 (some .int)) (apW [.fieldLink RX7 42 "HookPier$Reader" "names" "I", .fieldLink RX7 34 "HookPier$Reader" "name" "[J"] (wsX70))
theorem ifX7_nameOf_X7 : ∀ w ∈ wsX70, w ∈ vfX7_nameOf := fun _ h => (List.mem_cons_of_mem _ (List.mem_append_right _ h))
theorem qfX7_nameOf : Good vfX7_nameOf := gd_cons (by decide +kernel) (gd_app (gd_dec (by decide +kernel) : Good [.fieldLink RX7 42 "HookPier$Reader" "names" "I", .fieldLink RX7 34 "HookPier$Reader" "name" "[J"]) qsX7)
set_option maxHeartbeats 2000000 in
set_option maxRecDepth 100000 in
theorem kfX7_nameOf (l : Launch) (dC : Nat → ClassId) (dI : Nat → Nat → Nat) (a0 : Nat) (k1 : Int64) (ur : Nat → Nat) (kr : Nat → ClassId) (r_r : TX7_r) (sz : Nat) (out : Int32) (h : f_X7_nameOf k1 r_r = some out) : KDi l yX7_nameOf vfX7_nameOf ({ frames := 0, cells := 0, slots := 0, locals := 0 }) (dC, dI) [.ref a0, .long k1] sz (bX7 a0 ur kr r_r []) (tX7 kr ([])) (fun (r : Int32) _ => r = out) 0 0 := by
  refine Met.ofW (cc := cX7_nameOf) (maxL := 4) (ret := (some .int)) (by decide) rfl ?_
  intro p e s m args below meth c s₁ B0 hml hv
  obtain ⟨rfl, hsz, hP, hK, hD0, hN⟩ := hv
  have hx := B0.exec
  have hb := B0.bytes
  have hr := B0.returns
  have hts := atoms_spec (ws := vfX7_nameOf) B0.pre
  have hown : s.vm.findClass RX7 = some m.cls := findClass_of_methodNamed B0.named
  have hlocks := B0.notSynchronized
  subst hsz
  have hD := hD0.self (sz := s.heap.size)
  generalize hAe : va_A (bX7 a0 ur kr r_r []) s.heap.size = A at hD ⊢
  have hA : ∀ q : Nat, s.heap.size ≤ q → A q := fun q h => by rw [← hAe]; exact Or.inr h
  have hS : va_S A s.heap s.heap [] := va_S.rf
  have hP : va_P (dC, dI) vwCl (bX7 a0 ur kr r_r []) s.heap := hP
  have hl := lv_entry ([.ref a0, .long k1]) (n := 4) (Nat.le_of_ble_eq_true rfl)
  rw [lg_entry_eq]
  generalize (lg_sl ([.ref a0, .long k1]) ++ List.replicate (4 - (lg_sl ([.ref a0, .long k1])).length) Slot.unset).toArray = ls at hl ⊢
  have hl : lv_has ls 4 [(0, .ref a0), (1, .long k1)] := hl
  refine W_q (fun QQ hQQ => ?_)
  rw [f_X7_nameOf] at h
  refine lv_iconst (v := 0) hx hb (zat zrX7_nameOf_0_ok 0 rfl) (by decide) ?_
  refine lv_istore_n (lv' := [(3, .int 0), (0, .ref a0), (1, .long k1)]) hx hb (zat zrX7_nameOf_0_ok 1 rfl) rfl hl (by decide) rfl (fun ls hl => ?_)
  have L2 : ∀ (n2 : Nat) (v2_l3 : Int32) (H : Heap) (locs : List Loc) (ls : Array Slot), f_X7_nameOf_L2 k1 r_r n2 v2_l3 = some out → va_P (dC, dI) vwCl (bX7 a0 ur kr r_r []) H → va_D A (bX7 a0 ur kr r_r []) → va_S A s.heap H locs → lv_has ls 4 [(3, .int v2_l3), (0, .ref a0), (1, .long k1)] → W p l e (headSpec vfX7_nameOf { frames := 0, cells := 0, slots := 0, locals := 0 }).room s m ([.ref a0, .long k1]).toArray below meth c H locs 0 0 QQ (F0 m 2 ls []) := by
    intro n2
    induction n2 with
    | zero =>
      intro v2_l3 H locs ls h  _ _ _ _
      rw [f_X7_nameOf_L2] at h
      cases h
    | succ n2 ih2 =>
      intro v2_l3 H locs ls h  hP hD hS hl
      rw [f_X7_nameOf_L2] at h
      refine lv_iload_n hx hb (zat zrX7_nameOf_0_ok 2 rfl) rfl (lv_at hl 0 rfl) ?_
      refine lv_aload_n hx hb (zat zrX7_nameOf_0_ok 3 rfl) rfl (lv_at hl 1 rfl) ?_
      refine va_get (D := (dC, dI)) (ci := 5) (v := .int r_r.2.2.2.2.2.2.2.2.2.1) (C := RX7) (T := TX7) (N := 12) hx hb hts ifX7_nameOf_X7 hown hK hP 0 rfl rfl 9 (by decide) (hts (.fieldLink RX7 42 "HookPier$Reader" "names" "I") (List.mem_of_getElem? (i := 1) rfl)) (fun _ h9 => h9) rfl (zat zrX7_nameOf_0_ok 4 rfl) ?_
      refine lv_icmp_ge (tgt := 29) hx hb (zat zrX7_nameOf_0_ok 5 rfl) (by decide) (fun c7 => ?_) (fun c7 => ?_)
      · have h := (if_pos c7).symm.trans h
        refine lv_iconst (v := (-1)) hx hb (zat zrX7_nameOf_0_ok 17 rfl) (by decide) ?_
        obtain rfl := Option.some.inj h
        obtain ⟨hP9, hD9⟩ := pd_sub (bX7 a0 ur kr r_r []) [0, 1, 2, 3] hP hD (by decide) rfl
        have hK9 := hK.sub (tys' := []) [] rfl
        rw [hQQ]
        exact W.iret (v := (-1 : Int32)) hx hb hr (fun t ht hW => ⟨⟨(-1 : Int32), (), rfl, rfl, by rw [ht]; exact hP9, va_K.moved hW.alike hK9, hD9⟩, hS.F ht⟩) hS.2.2 (zat zrX7_nameOf_0_ok 18 rfl)
      · have h := (if_neg c7).symm.trans h
        refine lv_aload_n hx hb (zat zrX7_nameOf_0_ok 6 rfl) rfl (lv_at hl 1 rfl) ?_
        refine va_get (D := (dC, dI)) (ci := 5) (v := .ref (ur 1)) (C := RX7) (T := TX7) (N := 12) hx hb hts ifX7_nameOf_X7 hown hK hP 0 rfl rfl 7 (by decide) (hts (.fieldLink RX7 34 "HookPier$Reader" "name" "[J") (List.mem_of_getElem? (i := 2) rfl)) (fun _ h9 => h9) rfl (zat zrX7_nameOf_0_ok 7 rfl) ?_
        refine lv_iload_n hx hb (zat zrX7_nameOf_0_ok 8 rfl) rfl (lv_at hl 0 rfl) ?_
        obtain ⟨hg15, h⟩ := gA_of h
        refine va_lald hx hb hK hP 2 1 rfl rfl hg15 (zat zrX7_nameOf_0_ok 9 rfl) ?_
        refine lv_lload_n hx hb (zat zrX7_nameOf_0_ok 10 rfl) rfl (lv_at hl 2 rfl) ?_
        refine W.lcmp hx hb (zat zrX7_nameOf_0_ok 11 rfl) ?_
        refine lv_if_ne (tgt := 23) hx hb (zat zrX7_nameOf_0_ok 12 rfl) (by decide) (fun c18 => ?_) (fun c18 => ?_)
        · have h := (if_neg c18).symm.trans h
          refine lv_iinc (v := (v2_l3 + (1 : Int32))) (lv' := [(3, .int (v2_l3 + (1 : Int32))), (0, .ref a0), (1, .long k1)]) hx hb (zat zrX7_nameOf_0_ok 15 rfl) hl (k := 0) rfl rfl (by decide) rfl (fun ls hl => ?_)
          refine lv_goto (tgt := 2) hx hb (zat zrX7_nameOf_0_ok 16 rfl) (by decide) ?_
          exact ih2 (v2_l3 + (1 : Int32)) H _ ls h  hP hD hS (lv_sub hl [0, 1, 2] rfl)
        · have h := (if_pos c18).symm.trans h
          refine lv_iload_n hx hb (zat zrX7_nameOf_0_ok 13 rfl) rfl (lv_at hl 0 rfl) ?_
          obtain rfl := Option.some.inj h
          obtain ⟨hP9, hD9⟩ := pd_sub (bX7 a0 ur kr r_r []) [0, 1, 2, 3] hP hD (by decide) rfl
          have hK9 := hK.sub (tys' := []) [] rfl
          rw [hQQ]
          exact W.iret (v := v2_l3) hx hb hr (fun t ht hW => ⟨⟨v2_l3, (), rfl, rfl, by rw [ht]; exact hP9, va_K.moved hW.alike hK9, hD9⟩, hS.F ht⟩) hS.2.2 (zat zrX7_nameOf_0_ok 14 rfl)
  exact L2 FU (0 : Int32) s.heap _ ls h  hP hD hS (lv_sub hl [0, 1, 2] rfl)
noncomputable def zrX7_isWord_0 : List ZR := zc 0 true (.aload_n 0) 1 (zc 1 true (.getfield 22) 3 (zc 4 true (.iconst 1) 1 (zc 5 true (.if_icmp .ne 19) 3 (zc 8 true (.aload_n 0) 1 (zc 9 true (.getfield 28) 3 (zc 12 true (.aload_n 0) 1 (zc 13 true (.getfield 25) 3 (zc 16 true (.isub) 1 (zc 17 true (.aload_n 1) 1 (zc 18 true (.invokevirtual 231) 3 (zc 21 true (.if_icmp .eq 5) 3 (zc 24 true (.iconst 0) 1 (zc 25 true (.ireturn) 1 (zc 26 true (.iconst 0) 1 (zc 27 true (.istore_n 2) 1 (zc 28 true (.iload_n 2) 1 (zc 29 true (.aload_n 1) 1 (zc 30 true (.invokevirtual 231) 3 (zc 33 true (.if_icmp .ge 30) 3 (zc 36 true (.aload_n 0) 1 (zc 37 true (.getfield 9) 3 (zc 40 true (.aload_n 0) 1 (zc 41 true (.getfield 25) 3 (zc 44 true (.iload_n 2) 1 (zc 45 true (.iadd) 1 (zc 46 true (.baload) 1 (zc 47 true (.aload_n 1) 1 (zc 48 true (.iload_n 2) 1 (zc 49 true (.invokevirtual 237) 3 (zc 52 true (.if_icmp .eq 5) 3 (zc 55 true (.iconst 0) 1 (zc 56 true (.ireturn) 1 (zc 57 true (.iinc 2 1) 3 (zc 60 true (.goto (-32)) 3 (zc 63 true (.iconst 1) 1 (zc 64 true (.ireturn) 1 ([])))))))))))))))))))))))))))))))))))))
theorem zrX7_isWord_0_ok : zck 0 ((zby cX7_isWord).drop 0) zrX7_isWord_0 = true := by decide +kernel
def vfX7_isWord : List Cond := List.cons (.code yX7_isWord cX7_isWord 3 (some .boolean)) (apW [.fieldLink RX7 22 "HookPier$Reader" "token" "I", .fieldLink RX7 28 "HookPier$Reader" "behind" "I", .fieldLink RX7 25 "HookPier$Reader" "start" "I", .methodLink RX7 231 yJ0_length_8abf5, .instanceMethod yJ0_length_8abf5, .selects RJ0 yJ0_length_8abf5 yJ0_length_8abf5, .initialized RJ0, .fieldLink RX7 9 "HookPier$Reader" "text" "[B", .methodLink RX7 237 yJ0_charAt_5068e, .instanceMethod yJ0_charAt_5068e, .selects RJ0 yJ0_charAt_5068e yJ0_charAt_5068e] (apW wsX70 (apW vfJ0_length (vfJ0_charAt))))
theorem ifX7_isWord_X7 : ∀ w ∈ wsX70, w ∈ vfX7_isWord := fun _ h => (List.mem_cons_of_mem _ (List.mem_append_right _ (List.mem_append_left _ h)))
theorem qfX7_isWord : Good vfX7_isWord := gd_cons (by decide +kernel) (gd_app (gd_dec (by decide +kernel) : Good [.fieldLink RX7 22 "HookPier$Reader" "token" "I", .fieldLink RX7 28 "HookPier$Reader" "behind" "I", .fieldLink RX7 25 "HookPier$Reader" "start" "I", .methodLink RX7 231 yJ0_length_8abf5, .instanceMethod yJ0_length_8abf5, .selects RJ0 yJ0_length_8abf5 yJ0_length_8abf5, .initialized RJ0, .fieldLink RX7 9 "HookPier$Reader" "text" "[B", .methodLink RX7 237 yJ0_charAt_5068e, .instanceMethod yJ0_charAt_5068e, .selects RJ0 yJ0_charAt_5068e yJ0_charAt_5068e]) (gd_app qsX7 (gd_app qfJ0_length qfJ0_charAt)))
theorem gfX7_isWord_0 : GoodIn vfX7_isWord (wsV RX7 231 RJ0 yJ0_length_8abf5 vfJ0_length) := goodIn_app (goodIn_r [.methodLink RX7 231 yJ0_length_8abf5, .instanceMethod yJ0_length_8abf5, .selects RJ0 yJ0_length_8abf5 yJ0_length_8abf5, .initialized RJ0] [4, 5, 6, 7] rfl (by decide +kernel)) (goodIn_m (fun _ h => (List.mem_cons_of_mem _ (List.mem_append_right _ (List.mem_append_right _ (List.mem_append_left _ h))))) qfJ0_length)
theorem gfX7_isWord_1 : GoodIn vfX7_isWord (wsV RX7 237 RJ0 yJ0_charAt_5068e vfJ0_charAt) := goodIn_app (goodIn_r [.methodLink RX7 237 yJ0_charAt_5068e, .instanceMethod yJ0_charAt_5068e, .selects RJ0 yJ0_charAt_5068e yJ0_charAt_5068e, .initialized RJ0] [9, 10, 11, 7] rfl (by decide +kernel)) (goodIn_m (fun _ h => (List.mem_cons_of_mem _ (List.mem_append_right _ (List.mem_append_right _ (List.mem_append_right _ h))))) qfJ0_charAt)
set_option maxHeartbeats 2000000 in
set_option maxRecDepth 100000 in
theorem kfX7_isWord (l : Launch) (dC : Nat → ClassId) (dI : Nat → Nat → Nat) (a0 : Nat) (a1 : Nat) (w1 : List Int32) (ur : Nat → Nat) (kr : Nat → ClassId) (r_r : TX7_r) (sz : Nat) (B : Nat) (out : Int32) (h : f_X7_isWord w1 r_r = some out) : Met l yX7_isWord vfX7_isWord ({ frames := 4, cells := 0, slots := 0, locals := 85 }) (PF (dC, dI) B [.ref a0, .ref a1] sz (bX7 a0 ur kr r_r []) (tX7 kr ([])) [(a1, w1)]) (va_Qi (S := Unit) (fun (r : Int32) _ => r = out ∧ (0 ≤ r.toInt ∧ r.toInt ≤ 1)) (fun _ t => BC (dC, dI) (va_A (bX7 a0 ur kr r_r []) sz) (bX7 a0 ur kr r_r []) [] t) (va_A (bX7 a0 ur kr r_r []) sz)) 0 0 (va_A (bX7 a0 ur kr r_r []) sz) := by
  refine Met.ofW (cc := cX7_isWord) (maxL := 3) (ret := (some .boolean)) (by decide) rfl ?_
  intro p e s m args below meth c s₁ B0 hml hv
  obtain ⟨rfl, hsz, hP, hK, hD0, hN, hBs, hE, hX⟩ := hv
  have hBA := PF_reg hD0 hBs
  have xs1 : S1 B a1 w1 s := hX (a1, w1) (List.mem_of_getElem? (i := 0) rfl)
  have hx := B0.exec
  have hb := B0.bytes
  have hr := B0.returns
  have hts := atoms_spec (ws := vfX7_isWord) B0.pre
  have hown : s.vm.findClass RX7 = some m.cls := findClass_of_methodNamed B0.named
  have hlocks := B0.notSynchronized
  subst hsz
  have hD := hD0.self (sz := s.heap.size)
  generalize hAe : va_A (bX7 a0 ur kr r_r []) s.heap.size = A at hD hBA ⊢
  have hA : ∀ q : Nat, s.heap.size ≤ q → A q := fun q h => by rw [← hAe]; exact Or.inr h
  have hS : va_S A s.heap s.heap [] := va_S.rf
  have hP : va_P (dC, dI) vwCl (bX7 a0 ur kr r_r []) s.heap := hP
  have hl := lv_entry ([.ref a0, .ref a1]) (n := 3) (Nat.le_of_ble_eq_true rfl)
  rw [lg_entry_eq]
  generalize (lg_sl ([.ref a0, .ref a1]) ++ List.replicate (3 - (lg_sl ([.ref a0, .ref a1])).length) Slot.unset).toArray = ls at hl ⊢
  have hl : lv_has ls 3 [(0, .ref a0), (1, .ref a1)] := hl
  have hB : RB B s A := ⟨hBA, hBs⟩
  refine W_q (fun QQ hQQ => ?_)
  rw [f_X7_isWord] at h
  refine lv_aload_n hx hb (zat zrX7_isWord_0_ok 0 rfl) rfl (lv_at hl 0 rfl) ?_
  refine va_get (D := (dC, dI)) (ci := 5) (v := .int r_r.2.2.2.1) (C := RX7) (T := TX7) (N := 12) hx hb hts ifX7_isWord_X7 hown hK hP 0 rfl rfl 3 (by decide) (hts (.fieldLink RX7 22 "HookPier$Reader" "token" "I") (List.mem_of_getElem? (i := 1) rfl)) (fun _ h9 => h9) rfl (zat zrX7_isWord_0_ok 1 rfl) ?_
  refine lv_iconst (v := 1) hx hb (zat zrX7_isWord_0_ok 2 rfl) (by decide) ?_
  refine lv_icmp_ne (tgt := 24) hx hb (zat zrX7_isWord_0_ok 3 rfl) (by decide) (fun c5 => ?_) (fun c5 => ?_)
  · have h := (if_neg c5).symm.trans h
    refine lv_iconst (v := 0) hx hb (zat zrX7_isWord_0_ok 12 rfl) (by decide) ?_
    obtain rfl := Option.some.inj h
    obtain ⟨hP9, hD9⟩ := pd_sub (bX7 a0 ur kr r_r []) [0, 1, 2, 3] hP hD (by decide) rfl
    have hK9 := hK.sub (tys' := []) [] rfl
    rw [hQQ]
    exact W.zret (v := (0 : Int32)) hx hb hr rfl (fun t ht hW => ⟨⟨(0 : Int32), (), rfl, ⟨rfl, (by decide)⟩, by rw [ht]; exact hP9, va_K.moved hW.alike hK9, hD9⟩, hS.F ht⟩) hS.2.2 (zat zrX7_isWord_0_ok 13 rfl)
  · have h := (if_pos c5).symm.trans h
    refine lv_aload_n hx hb (zat zrX7_isWord_0_ok 4 rfl) rfl (lv_at hl 0 rfl) ?_
    refine va_get (D := (dC, dI)) (ci := 5) (v := .int r_r.2.2.2.2.2.1) (C := RX7) (T := TX7) (N := 12) hx hb hts ifX7_isWord_X7 hown hK hP 0 rfl rfl 5 (by decide) (hts (.fieldLink RX7 28 "HookPier$Reader" "behind" "I") (List.mem_of_getElem? (i := 2) rfl)) (fun _ h9 => h9) rfl (zat zrX7_isWord_0_ok 5 rfl) ?_
    refine lv_aload_n hx hb (zat zrX7_isWord_0_ok 6 rfl) rfl (lv_at hl 0 rfl) ?_
    refine va_get (D := (dC, dI)) (ci := 5) (v := .int r_r.2.2.2.2.1) (C := RX7) (T := TX7) (N := 12) hx hb hts ifX7_isWord_X7 hown hK hP 0 rfl rfl 4 (by decide) (hts (.fieldLink RX7 25 "HookPier$Reader" "start" "I") (List.mem_of_getElem? (i := 3) rfl)) (fun _ h9 => h9) rfl (zat zrX7_isWord_0_ok 7 rfl) ?_
    refine lv_isub hx hb (zat zrX7_isWord_0_ok 8 rfl) ?_
    refine lv_aload_n hx hb (zat zrX7_isWord_0_ok 9 rfl) rfl (lv_at hl 1 rfl) ?_
    refine cl_i (D := (dC, dI)) (w1 := fun _ => []) (tys1 := fun _ => []) (wc := []) (wr := (bX7 a0 ur kr r_r [])) (va_runV (As := []) (rest := [.int (r_r.2.2.2.2.2.1 - r_r.2.2.2.2.1)]) ⟨hx, hb, hml, hown, hts⟩ (kfJ0_length l dC dI a1 w1 s.heap.size B) (cwV 0 hts gfX7_isWord_0 rfl rfl rfl (by decide +kernel) ⟨(Nat.le_of_ble_eq_true rfl), (Nat.le_of_ble_eq_true rfl)⟩) (PVS hK hN hS hB hE xs1) rfl rfl hl.1 rfl (lv_room (Nat.le_of_ble_eq_true rfl)) (zat zrX7_isWord_0_ok 10 rfl) ⟨(Nat.le_of_ble_eq_true rfl), (Nat.le_of_ble_eq_true rfl)⟩) hP hD hK hS hA [] [0, 1, 2, 3] rfl rfl (by decide) (by decide) (fun r18 _ H locs hw hP hD _ hS => ?_)
    obtain rfl := hw
    obtain ⟨hP, hD⟩ := pd_mk (bX7 a0 ur kr r_r []) hP hD
    refine lv_icmp_eq (tgt := 26) hx hb (zat zrX7_isWord_0_ok 11 rfl) (by decide) (fun c21 => ?_) (fun c21 => ?_)
    · have h := (if_pos c21).symm.trans h
      refine lv_iconst (v := 0) hx hb (zat zrX7_isWord_0_ok 14 rfl) (by decide) ?_
      refine lv_istore_n (lv' := [(2, .int 0), (0, .ref a0), (1, .ref a1)]) hx hb (zat zrX7_isWord_0_ok 15 rfl) rfl hl (by decide) rfl (fun ls hl => ?_)
      have L28 : ∀ (n28 : Nat) (v28_l2 : Int32) (H : Heap) (locs : List Loc) (ls : Array Slot), f_X7_isWord_L28 w1 r_r n28 v28_l2 = some out → va_P (dC, dI) vwCl (bX7 a0 ur kr r_r []) H → va_D A (bX7 a0 ur kr r_r []) → va_S A s.heap H locs → lv_has ls 3 [(2, .int v28_l2), (0, .ref a0), (1, .ref a1)] → W p l e (headSpec vfX7_isWord { frames := 4, cells := 0, slots := 0, locals := 85 }).room s m ([.ref a0, .ref a1]).toArray below meth c H locs 0 0 QQ (F0 m 28 ls []) := by
        intro n28
        induction n28 with
        | zero =>
          intro v28_l2 H locs ls h  _ _ _ _
          rw [f_X7_isWord_L28] at h
          cases h
        | succ n28 ih28 =>
          intro v28_l2 H locs ls h  hP hD hS hl
          rw [f_X7_isWord_L28] at h
          refine lv_iload_n hx hb (zat zrX7_isWord_0_ok 16 rfl) rfl (lv_at hl 0 rfl) ?_
          refine lv_aload_n hx hb (zat zrX7_isWord_0_ok 17 rfl) rfl (lv_at hl 2 rfl) ?_
          refine cl_i (D := (dC, dI)) (w1 := fun _ => []) (tys1 := fun _ => []) (wc := []) (wr := (bX7 a0 ur kr r_r [])) (va_runV (As := []) (rest := [.int v28_l2]) ⟨hx, hb, hml, hown, hts⟩ (kfJ0_length l dC dI a1 w1 H.size B) (cwV 0 hts gfX7_isWord_0 rfl rfl rfl (by decide +kernel) ⟨(Nat.le_of_ble_eq_true rfl), (Nat.le_of_ble_eq_true rfl)⟩) (PVS hK hN hS hB hE xs1) rfl rfl hl.1 rfl (lv_room (Nat.le_of_ble_eq_true rfl)) (zat zrX7_isWord_0_ok 18 rfl) ⟨(Nat.le_of_ble_eq_true rfl), (Nat.le_of_ble_eq_true rfl)⟩) hP hD hK hS hA [] [0, 1, 2, 3] rfl rfl (by decide) (by decide) (fun r30 _ H locs hw hP hD _ hS => ?_)
          obtain rfl := hw
          obtain ⟨hP, hD⟩ := pd_mk (bX7 a0 ur kr r_r []) hP hD
          refine lv_icmp_ge (tgt := 63) hx hb (zat zrX7_isWord_0_ok 19 rfl) (by decide) (fun c33 => ?_) (fun c33 => ?_)
          · have h := (if_pos c33).symm.trans h
            refine lv_iconst (v := 1) hx hb (zat zrX7_isWord_0_ok 35 rfl) (by decide) ?_
            obtain rfl := Option.some.inj h
            obtain ⟨hP9, hD9⟩ := pd_sub (bX7 a0 ur kr r_r []) [0, 1, 2, 3] hP hD (by decide) rfl
            have hK9 := hK.sub (tys' := []) [] rfl
            rw [hQQ]
            exact W.zret (v := (1 : Int32)) hx hb hr rfl (fun t ht hW => ⟨⟨(1 : Int32), (), rfl, ⟨rfl, (by decide)⟩, by rw [ht]; exact hP9, va_K.moved hW.alike hK9, hD9⟩, hS.F ht⟩) hS.2.2 (zat zrX7_isWord_0_ok 36 rfl)
          · have h := (if_neg c33).symm.trans h
            refine lv_aload_n hx hb (zat zrX7_isWord_0_ok 20 rfl) rfl (lv_at hl 1 rfl) ?_
            refine va_get (D := (dC, dI)) (ci := 5) (v := .ref (ur 0)) (C := RX7) (T := TX7) (N := 12) hx hb hts ifX7_isWord_X7 hown hK hP 0 rfl rfl 0 (by decide) (hts (.fieldLink RX7 9 "HookPier$Reader" "text" "[B") (List.mem_of_getElem? (i := 8) rfl)) (fun _ h9 => h9) rfl (zat zrX7_isWord_0_ok 21 rfl) ?_
            refine lv_aload_n hx hb (zat zrX7_isWord_0_ok 22 rfl) rfl (lv_at hl 1 rfl) ?_
            refine va_get (D := (dC, dI)) (ci := 5) (v := .int r_r.2.2.2.2.1) (C := RX7) (T := TX7) (N := 12) hx hb hts ifX7_isWord_X7 hown hK hP 0 rfl rfl 4 (by decide) (hts (.fieldLink RX7 25 "HookPier$Reader" "start" "I") (List.mem_of_getElem? (i := 3) rfl)) (fun _ h9 => h9) rfl (zat zrX7_isWord_0_ok 23 rfl) ?_
            refine lv_iload_n hx hb (zat zrX7_isWord_0_ok 24 rfl) rfl (lv_at hl 0 rfl) ?_
            refine lv_iadd hx hb (zat zrX7_isWord_0_ok 25 rfl) ?_
            obtain ⟨hg46, h⟩ := gA_of h
            refine va_bald hx hb hK hP 1 0 rfl rfl hg46 (zat zrX7_isWord_0_ok 26 rfl) ?_
            refine lv_aload_n hx hb (zat zrX7_isWord_0_ok 27 rfl) rfl (lv_at hl 2 rfl) ?_
            refine lv_iload_n hx hb (zat zrX7_isWord_0_ok 28 rfl) rfl (lv_at hl 0 rfl) ?_
            obtain ⟨hg49, h⟩ := gA_of h
            refine cl_i (D := (dC, dI)) (w1 := fun _ => []) (tys1 := fun _ => []) (wc := []) (wr := (bX7 a0 ur kr r_r [])) (va_runV (As := [.int v28_l2]) (rest := [.int (r_r.1 ((r_r.2.2.2.2.1 + v28_l2)).toNatClampNeg)]) ⟨hx, hb, hml, hown, hts⟩ (kfJ0_charAt l dC dI a1 w1 v28_l2 H.size B hg49) (cwV 1 hts gfX7_isWord_1 rfl rfl rfl (by decide +kernel) ⟨(Nat.le_of_ble_eq_true rfl), (Nat.le_of_ble_eq_true rfl)⟩) (PVS hK hN hS hB hE xs1) rfl rfl hl.1 rfl (lv_room (Nat.le_of_ble_eq_true rfl)) (zat zrX7_isWord_0_ok 29 rfl) ⟨(Nat.le_of_ble_eq_true rfl), (Nat.le_of_ble_eq_true rfl)⟩) hP hD hK hS hA [] [0, 1, 2, 3] rfl rfl (by decide) (by decide) (fun r49 _ H locs hw hP hD _ hS => ?_)
            obtain rfl := hw
            obtain ⟨hP, hD⟩ := pd_mk (bX7 a0 ur kr r_r []) hP hD
            refine lv_icmp_eq (tgt := 57) hx hb (zat zrX7_isWord_0_ok 30 rfl) (by decide) (fun c52 => ?_) (fun c52 => ?_)
            · have h := (if_pos c52).symm.trans h
              refine lv_iinc (v := (v28_l2 + (1 : Int32))) (lv' := [(2, .int (v28_l2 + (1 : Int32))), (0, .ref a0), (1, .ref a1)]) hx hb (zat zrX7_isWord_0_ok 33 rfl) hl (k := 0) rfl rfl (by decide) rfl (fun ls hl => ?_)
              refine lv_goto (tgt := 28) hx hb (zat zrX7_isWord_0_ok 34 rfl) (by decide) ?_
              exact ih28 (v28_l2 + (1 : Int32)) H _ ls h  hP hD hS (lv_sub hl [0, 1, 2] rfl)
            · have h := (if_neg c52).symm.trans h
              refine lv_iconst (v := 0) hx hb (zat zrX7_isWord_0_ok 31 rfl) (by decide) ?_
              obtain rfl := Option.some.inj h
              obtain ⟨hP9, hD9⟩ := pd_sub (bX7 a0 ur kr r_r []) [0, 1, 2, 3] hP hD (by decide) rfl
              have hK9 := hK.sub (tys' := []) [] rfl
              rw [hQQ]
              exact W.zret (v := (0 : Int32)) hx hb hr rfl (fun t ht hW => ⟨⟨(0 : Int32), (), rfl, ⟨rfl, (by decide)⟩, by rw [ht]; exact hP9, va_K.moved hW.alike hK9, hD9⟩, hS.F ht⟩) hS.2.2 (zat zrX7_isWord_0_ok 32 rfl)
      exact L28 FU (0 : Int32) H _ ls h  hP hD hS (lv_sub hl [0, 1, 2] rfl)
    · have h := (if_neg c21).symm.trans h
      refine lv_iconst (v := 0) hx hb (zat zrX7_isWord_0_ok 12 rfl) (by decide) ?_
      obtain rfl := Option.some.inj h
      obtain ⟨hP9, hD9⟩ := pd_sub (bX7 a0 ur kr r_r []) [0, 1, 2, 3] hP hD (by decide) rfl
      have hK9 := hK.sub (tys' := []) [] rfl
      rw [hQQ]
      exact W.zret (v := (0 : Int32)) hx hb hr rfl (fun t ht hW => ⟨⟨(0 : Int32), (), rfl, ⟨rfl, (by decide)⟩, by rw [ht]; exact hP9, va_K.moved hW.alike hK9, hD9⟩, hS.F ht⟩) hS.2.2 (zat zrX7_isWord_0_ok 13 rfl)
noncomputable def zrX7_takeWord_0 : List ZR := zc 0 true (.aload_n 0) 1 (zc 1 true (.aload_n 1) 1 (zc 2 true (.invokevirtual 78) 3 (zc 5 true (.ifCond .ne 9) 3 (zc 8 true (.aload_n 0) 1 (zc 9 true (.iconst 1) 1 (zc 10 true (.invokevirtual 72) 3 (zc 13 true (.ireturn) 1 (zc 14 true (.aload_n 0) 1 (zc 15 true (.invokevirtual 62) 3 (zc 18 true (.iconst 1) 1 (zc 19 true (.ireturn) 1 ([]))))))))))))
theorem zrX7_takeWord_0_ok : zck 0 ((zby cX7_takeWord).drop 0) zrX7_takeWord_0 = true := by decide +kernel
def vfX7_takeWord : List Cond := List.cons (.code yX7_takeWord cX7_takeWord 2 (some .boolean)) (apW [.methodLink RX7 78 yX7_isWord, .instanceMethod yX7_isWord, .selects RX7 yX7_isWord yX7_isWord, .initialized RX7, .methodLink RX7 62 yX7_advance, .instanceMethod yX7_advance, .selects RX7 yX7_advance yX7_advance, .methodLink RX7 72 yX7_fail, .instanceMethod yX7_fail, .selects RX7 yX7_fail yX7_fail] (apW vfX7_isWord (apW vfX7_advance (vfX7_fail))))
theorem qfX7_takeWord : Good vfX7_takeWord := gd_cons (by decide +kernel) (gd_app (gd_dec (by decide +kernel) : Good [.methodLink RX7 78 yX7_isWord, .instanceMethod yX7_isWord, .selects RX7 yX7_isWord yX7_isWord, .initialized RX7, .methodLink RX7 62 yX7_advance, .instanceMethod yX7_advance, .selects RX7 yX7_advance yX7_advance, .methodLink RX7 72 yX7_fail, .instanceMethod yX7_fail, .selects RX7 yX7_fail yX7_fail]) (gd_app qfX7_isWord (gd_app qfX7_advance qfX7_fail)))
theorem gfX7_takeWord_0 : GoodIn vfX7_takeWord (wsV RX7 78 RX7 yX7_isWord vfX7_isWord) := goodIn_app (goodIn_r [.methodLink RX7 78 yX7_isWord, .instanceMethod yX7_isWord, .selects RX7 yX7_isWord yX7_isWord, .initialized RX7] [1, 2, 3, 4] rfl (by decide +kernel)) (goodIn_m (fun _ h => (List.mem_cons_of_mem _ (List.mem_append_right _ (List.mem_append_left _ h)))) qfX7_isWord)
theorem gfX7_takeWord_1 : GoodIn vfX7_takeWord (wsV RX7 62 RX7 yX7_advance vfX7_advance) := goodIn_app (goodIn_r [.methodLink RX7 62 yX7_advance, .instanceMethod yX7_advance, .selects RX7 yX7_advance yX7_advance, .initialized RX7] [5, 6, 7, 4] rfl (by decide +kernel)) (goodIn_m (fun _ h => (List.mem_cons_of_mem _ (List.mem_append_right _ (List.mem_append_right _ (List.mem_append_left _ h))))) qfX7_advance)
theorem gfX7_takeWord_2 : GoodIn vfX7_takeWord (wsV RX7 72 RX7 yX7_fail vfX7_fail) := goodIn_app (goodIn_r [.methodLink RX7 72 yX7_fail, .instanceMethod yX7_fail, .selects RX7 yX7_fail yX7_fail, .initialized RX7] [8, 9, 10, 4] rfl (by decide +kernel)) (goodIn_m (fun _ h => (List.mem_cons_of_mem _ (List.mem_append_right _ (List.mem_append_right _ (List.mem_append_right _ h))))) qfX7_fail)
set_option maxHeartbeats 2000000 in
set_option maxRecDepth 100000 in
theorem kfX7_takeWord (l : Launch) (dC : Nat → ClassId) (dI : Nat → Nat → Nat) (a0 : Nat) (a1 : Nat) (w1 : List Int32) (ur : Nat → Nat) (kr : Nat → ClassId) (r_r : TX7_r) (sz : Nat) (B : Nat) (out : (Int32 × TX7_r)) (h : f_X7_takeWord w1 r_r = some out) : Met l yX7_takeWord vfX7_takeWord ({ frames := 5, cells := 0, slots := 0, locals := 107 }) (PF (dC, dI) B [.ref a0, .ref a1] sz (bX7 a0 ur kr r_r []) (tX7 kr ([])) [(a1, w1)]) (va_Qi (S := Unit) (fun (r : Int32) _ => r = out.1 ∧ (0 ≤ r.toInt ∧ r.toInt ≤ 1)) (fun _ t => BC (dC, dI) (va_A (bX7 a0 ur kr r_r []) sz) (bX7 a0 ur kr out.2 []) [] t) (va_A (bX7 a0 ur kr r_r []) sz)) 0 0 (va_A (bX7 a0 ur kr r_r []) sz) := by
  refine Met.ofW (cc := cX7_takeWord) (maxL := 2) (ret := (some .boolean)) (by decide) rfl ?_
  intro p e s m args below meth c s₁ B0 hml hv
  obtain ⟨rfl, hsz, hP, hK, hD0, hN, hBs, hE, hX⟩ := hv
  have hBA := PF_reg hD0 hBs
  have xs1 : S1 B a1 w1 s := hX (a1, w1) (List.mem_of_getElem? (i := 0) rfl)
  have hx := B0.exec
  have hb := B0.bytes
  have hr := B0.returns
  have hts := atoms_spec (ws := vfX7_takeWord) B0.pre
  have hown : s.vm.findClass RX7 = some m.cls := findClass_of_methodNamed B0.named
  have hlocks := B0.notSynchronized
  subst hsz
  have hD := hD0.self (sz := s.heap.size)
  generalize hAe : va_A (bX7 a0 ur kr r_r []) s.heap.size = A at hD hBA ⊢
  have hA : ∀ q : Nat, s.heap.size ≤ q → A q := fun q h => by rw [← hAe]; exact Or.inr h
  have hS : va_S A s.heap s.heap [] := va_S.rf
  have hP : va_P (dC, dI) vwCl (bX7 a0 ur kr r_r []) s.heap := hP
  have hl := lv_entry ([.ref a0, .ref a1]) (n := 2) (Nat.le_of_ble_eq_true rfl)
  rw [lg_entry_eq]
  generalize (lg_sl ([.ref a0, .ref a1]) ++ List.replicate (2 - (lg_sl ([.ref a0, .ref a1])).length) Slot.unset).toArray = ls at hl ⊢
  have hl : lv_has ls 2 [(0, .ref a0), (1, .ref a1)] := hl
  have hB : RB B s A := ⟨hBA, hBs⟩
  refine W_q (fun QQ hQQ => ?_)
  rw [f_X7_takeWord] at h
  refine lv_aload_n hx hb (zat zrX7_takeWord_0_ok 0 rfl) rfl (lv_at hl 0 rfl) ?_
  refine lv_aload_n hx hb (zat zrX7_takeWord_0_ok 1 rfl) rfl (lv_at hl 1 rfl) ?_
  obtain ⟨o2, eo2, h⟩ := bd_of h
  refine ck_i (wc := (bX7 a0 ur kr r_r [])) (wr := []) hP hD hK hS hA [0, 1, 2, 3] [] rfl rfl (by decide) (by decide) (by decide) (fun hPc hDc => (va_runV (As := [.ref a1]) (rest := []) ⟨hx, hb, hml, hown, hts⟩ (kfX7_isWord l dC dI a0 a1 w1 ur kr r_r s.heap.size B o2 eo2) (cwV 1 hts gfX7_takeWord_0 rfl rfl rfl (by decide +kernel) ⟨(Nat.le_of_ble_eq_true rfl), (Nat.le_of_ble_eq_true rfl)⟩) (PVF hPc (hK.sub (tys' := (tX7 kr ([]))) [0, 1, 2] rfl) hDc hN hS hB hE (S1c xs1 S1n) 0 rfl rfl) rfl rfl hl.1 rfl (lv_room (Nat.le_of_ble_eq_true rfl)) (zat zrX7_takeWord_0_ok 2 rfl) ⟨(Nat.le_of_ble_eq_true rfl), (Nat.le_of_ble_eq_true rfl)⟩)) (fun r2 _ H locs hw hP hD _ hS => ?_)
  obtain ⟨hw, br2⟩ := hw
  obtain rfl := hw.symm
  obtain ⟨hP, hD⟩ := pd_mk (bX7 a0 ur kr r_r []) hP hD
  refine lv_if_ne (tgt := 14) hx hb (zat zrX7_takeWord_0_ok 3 rfl) (by decide) (fun c5 => ?_) (fun c5 => ?_)
  · have h := (if_neg c5).symm.trans h
    refine lv_aload_n hx hb (zat zrX7_takeWord_0_ok 8 rfl) rfl (lv_at hl 0 rfl) ?_
    obtain ⟨o15, eo15, h⟩ := bd_of h
    refine ck_v (wc := (bX7 a0 ur kr r_r [])) (wr := []) hP hD hK hS hA [0, 1, 2, 3] [] rfl rfl (by decide) (by decide) (by decide) (fun hPc hDc => (va_runV (As := []) (rest := []) ⟨hx, hb, hml, hown, hts⟩ (kfX7_advance l dC dI a0 ur kr r_r H.size o15 eo15) (cwV 0 hts gfX7_takeWord_1 rfl rfl rfl (by decide +kernel) ⟨(Nat.le_of_ble_eq_true rfl), (Nat.le_of_ble_eq_true rfl)⟩) (PV hPc (hK.sub (tys' := (tX7 kr ([]))) [0, 1, 2] rfl) hDc hN 0 rfl rfl) rfl rfl hl.1 rfl (lv_room (Nat.le_of_ble_eq_true rfl)) (zat zrX7_takeWord_0_ok 9 rfl) ⟨(Nat.le_of_ble_eq_true rfl), (Nat.le_of_ble_eq_true rfl)⟩)) (fun _ H locs hw hP hD _ hS => ?_)
    obtain ⟨hP, hD⟩ := pd_mk (bX7 a0 ur kr o15 []) hP hD
    refine lv_iconst (v := 1) hx hb (zat zrX7_takeWord_0_ok 10 rfl) (by decide) ?_
    obtain rfl := Option.some.inj h
    obtain ⟨hP9, hD9⟩ := pd_sub (bX7 a0 ur kr o15 []) [0, 1, 2, 3] hP hD (by decide) rfl
    have hK9 := hK.sub (tys' := []) [] rfl
    rw [hQQ]
    exact W.zret (v := (1 : Int32)) hx hb hr rfl (fun t ht hW => ⟨⟨(1 : Int32), (), rfl, ⟨rfl, (by decide)⟩, by rw [ht]; exact hP9, va_K.moved hW.alike hK9, hD9⟩, hS.F ht⟩) hS.2.2 (zat zrX7_takeWord_0_ok 11 rfl)
  · have h := (if_pos c5).symm.trans h
    refine lv_aload_n hx hb (zat zrX7_takeWord_0_ok 4 rfl) rfl (lv_at hl 0 rfl) ?_
    refine lv_iconst (v := 1) hx hb (zat zrX7_takeWord_0_ok 5 rfl) (by decide) ?_
    obtain ⟨o10, eo10⟩ : ∃ o, o = f_X7_fail (1 : Int32) r_r := ⟨_, rfl⟩
    have h := nm_of h o10 eo10
    refine ck_i (wc := (bX7 a0 ur kr r_r [])) (wr := []) hP hD hK hS hA [0, 1, 2, 3] [] rfl rfl (by decide) (by decide) (by decide) (fun hPc hDc => (va_runV (As := [.int 1]) (rest := []) ⟨hx, hb, hml, hown, hts⟩ (kfX7_fail l dC dI a0 (1 : Int32) ur kr r_r H.size o10 eo10.symm) (cwV 1 hts gfX7_takeWord_2 rfl rfl rfl (by decide +kernel) ⟨(Nat.le_of_ble_eq_true rfl), (Nat.le_of_ble_eq_true rfl)⟩) (PV hPc (hK.sub (tys' := (tX7 kr ([]))) [0, 1, 2] rfl) hDc hN 0 rfl rfl) rfl rfl hl.1 rfl (lv_room (Nat.le_of_ble_eq_true rfl)) (zat zrX7_takeWord_0_ok 6 rfl) ⟨(Nat.le_of_ble_eq_true rfl), (Nat.le_of_ble_eq_true rfl)⟩)) (fun r10 _ H locs hw hP hD _ hS => ?_)
    obtain ⟨hw, br10⟩ := hw
    obtain rfl := hw
    obtain ⟨hP, hD⟩ := pd_mk (bX7 a0 ur kr o10 []) hP hD
    obtain rfl := Option.some.inj h
    obtain ⟨hP9, hD9⟩ := pd_sub (bX7 a0 ur kr o10 []) [0, 1, 2, 3] hP hD (by decide) rfl
    have hK9 := hK.sub (tys' := []) [] rfl
    rw [hQQ]
    exact W.zret (v := (0 : Int32)) hx hb hr rfl (fun t ht hW => ⟨⟨(0 : Int32), (), rfl, ⟨rfl, (by decide)⟩, by rw [ht]; exact hP9, va_K.moved hW.alike hK9, hD9⟩, hS.F ht⟩) hS.2.2 (zat zrX7_takeWord_0_ok 7 rfl)
noncomputable def zrX7_isName_0 : List ZR := zc 0 true (.aload_n 0) 1 (zc 1 true (.getfield 22) 3 (zc 4 true (.iconst 1) 1 (zc 5 true (.if_icmp .ne 61) 3 (zc 8 true (.aload_n 0) 1 (zc 9 true (.ldc 76) 2 (zc 11 true (.invokevirtual 78) 3 (zc 14 true (.ifCond .ne 52) 3 (zc 17 true (.aload_n 0) 1 (zc 18 true (.ldc 88) 2 (zc 20 true (.invokevirtual 78) 3 (zc 23 true (.ifCond .ne 43) 3 (zc 26 true (.aload_n 0) 1 (zc 27 true (.ldc 97) 2 (zc 29 true (.invokevirtual 78) 3 (zc 32 true (.ifCond .ne 34) 3 (zc 35 true (.aload_n 0) 1 (zc 36 true (.ldc 105) 2 (zc 38 true (.invokevirtual 78) 3 (zc 41 true (.ifCond .ne 25) 3 (zc 44 true (.aload_n 0) 1 (zc 45 true (.ldc 113) 2 (zc 47 true (.invokevirtual 78) 3 (zc 50 true (.ifCond .ne 16) 3 (zc 53 true (.aload_n 0) 1 (zc 54 true (.ldc 121) 2 (zc 56 true (.invokevirtual 78) 3 (zc 59 true (.ifCond .ne 7) 3 (zc 62 true (.iconst 1) 1 (zc 63 true (.goto 4) 3 (zc 66 true (.iconst 0) 1 (zc 67 true (.ireturn) 1 ([]))))))))))))))))))))))))))))))))
theorem zrX7_isName_0_ok : zck 0 ((zby cX7_isName).drop 0) zrX7_isName_0 = true := by decide +kernel
def vfX7_isName : List Cond := List.cons (.code yX7_isName cX7_isName 1 (some .boolean)) (apW [.fieldLink RX7 22 "HookPier$Reader" "token" "I", .methodLink RX7 78 yX7_isWord, .instanceMethod yX7_isWord, .selects RX7 yX7_isWord yX7_isWord, .initialized RX7] (apW wsX70 (vfX7_isWord)))
theorem ifX7_isName_X7 : ∀ w ∈ wsX70, w ∈ vfX7_isName := fun _ h => (List.mem_cons_of_mem _ (List.mem_append_right _ (List.mem_append_left _ h)))
theorem qfX7_isName : Good vfX7_isName := gd_cons (by decide +kernel) (gd_app (gd_dec (by decide +kernel) : Good [.fieldLink RX7 22 "HookPier$Reader" "token" "I", .methodLink RX7 78 yX7_isWord, .instanceMethod yX7_isWord, .selects RX7 yX7_isWord yX7_isWord, .initialized RX7]) (gd_app qsX7 qfX7_isWord))
theorem gfX7_isName_0 : GoodIn vfX7_isName (wsV RX7 78 RX7 yX7_isWord vfX7_isWord) := goodIn_app (goodIn_r [.methodLink RX7 78 yX7_isWord, .instanceMethod yX7_isWord, .selects RX7 yX7_isWord yX7_isWord, .initialized RX7] [2, 3, 4, 5] rfl (by decide +kernel)) (goodIn_m (fun _ h => (List.mem_cons_of_mem _ (List.mem_append_right _ (List.mem_append_right _ h)))) qfX7_isWord)
set_option maxHeartbeats 2000000 in
set_option maxRecDepth 100000 in
theorem kfX7_isName (l : Launch) (dC : Nat → ClassId) (dI : Nat → Nat → Nat) (a0 : Nat) (ur : Nat → Nat) (kr : Nat → ClassId) (r_r : TX7_r) (sz : Nat) (B : Nat) (out : Int32) (h : f_X7_isName r_r = some out) : Met l yX7_isName vfX7_isName ({ frames := 5, cells := 0, slots := 0, locals := 107 }) (PF (dC, dI) B [.ref a0] sz (bX7 a0 ur kr r_r []) (tX7 kr ([])) []) (va_Qi (S := Unit) (fun (r : Int32) _ => r = out ∧ (0 ≤ r.toInt ∧ r.toInt ≤ 1)) (fun _ t => BC (dC, dI) (va_A (bX7 a0 ur kr r_r []) sz) (bX7 a0 ur kr r_r []) [] t) (va_A (bX7 a0 ur kr r_r []) sz)) 0 0 (va_A (bX7 a0 ur kr r_r []) sz) := by
  refine Met.ofW (cc := cX7_isName) (maxL := 1) (ret := (some .boolean)) (by decide) rfl ?_
  intro p e s m args below meth c s₁ B0 hml hv
  obtain ⟨rfl, hsz, hP, hK, hD0, hN, hBs, hE, hX⟩ := hv
  have hBA := PF_reg hD0 hBs
  have hx := B0.exec
  have hb := B0.bytes
  have hr := B0.returns
  have hts := atoms_spec (ws := vfX7_isName) B0.pre
  have hown : s.vm.findClass RX7 = some m.cls := findClass_of_methodNamed B0.named
  have hlocks := B0.notSynchronized
  subst hsz
  have hD := hD0.self (sz := s.heap.size)
  generalize hAe : va_A (bX7 a0 ur kr r_r []) s.heap.size = A at hD hBA ⊢
  have hA : ∀ q : Nat, s.heap.size ≤ q → A q := fun q h => by rw [← hAe]; exact Or.inr h
  have hS : va_S A s.heap s.heap [] := va_S.rf
  have hP : va_P (dC, dI) vwCl (bX7 a0 ur kr r_r []) s.heap := hP
  have hl := lv_entry ([.ref a0]) (n := 1) (Nat.le_of_ble_eq_true rfl)
  rw [lg_entry_eq]
  generalize (lg_sl ([.ref a0]) ++ List.replicate (1 - (lg_sl ([.ref a0])).length) Slot.unset).toArray = ls at hl ⊢
  have hl : lv_has ls 1 [(0, .ref a0)] := hl
  have hB : RB B s A := ⟨hBA, hBs⟩
  refine W_q (fun QQ hQQ => ?_)
  rw [f_X7_isName] at h
  refine lv_aload_n hx hb (zat zrX7_isName_0_ok 0 rfl) rfl (lv_at hl 0 rfl) ?_
  refine va_get (D := (dC, dI)) (ci := 5) (v := .int r_r.2.2.2.1) (C := RX7) (T := TX7) (N := 12) hx hb hts ifX7_isName_X7 hown hK hP 0 rfl rfl 3 (by decide) (hts (.fieldLink RX7 22 "HookPier$Reader" "token" "I") (List.mem_of_getElem? (i := 1) rfl)) (fun _ h9 => h9) rfl (zat zrX7_isName_0_ok 1 rfl) ?_
  refine lv_iconst (v := 1) hx hb (zat zrX7_isName_0_ok 2 rfl) (by decide) ?_
  refine lv_icmp_ne (tgt := 66) hx hb (zat zrX7_isName_0_ok 3 rfl) (by decide) (fun c5 => ?_) (fun c5 => ?_)
  · have h := (if_neg c5).symm.trans h
    refine lv_iconst (v := 0) hx hb (zat zrX7_isName_0_ok 30 rfl) (by decide) ?_
    obtain rfl := Option.some.inj h
    obtain ⟨hP9, hD9⟩ := pd_sub (bX7 a0 ur kr r_r []) [0, 1, 2, 3] hP hD (by decide) rfl
    have hK9 := hK.sub (tys' := []) [] rfl
    rw [hQQ]
    exact W.zret (v := (0 : Int32)) hx hb hr rfl (fun t ht hW => ⟨⟨(0 : Int32), (), rfl, ⟨rfl, (by decide)⟩, by rw [ht]; exact hP9, va_K.moved hW.alike hK9, hD9⟩, hS.F ht⟩) hS.2.2 (zat zrX7_isName_0_ok 31 rfl)
  · have h := (if_pos c5).symm.trans h
    refine lv_aload_n hx hb (zat zrX7_isName_0_ok 4 rfl) rfl (lv_at hl 0 rfl) ?_
    obtain ⟨s9, hs9, xs9⟩ := hE.1 (RX7, 76, "pier", tx_pier) (List.mem_of_getElem? (i := 0) rfl)
    refine va_ldcS hx hb hown hs9 (zat zrX7_isName_0_ok 5 rfl) ?_
    obtain ⟨o11, eo11, h⟩ := bd_of h
    refine ck_i (wc := (bX7 a0 ur kr r_r [])) (wr := []) hP hD hK hS hA [0, 1, 2, 3] [] rfl rfl (by decide) (by decide) (by decide) (fun hPc hDc => (va_runV (As := [.ref s9]) (rest := []) ⟨hx, hb, hml, hown, hts⟩ (kfX7_isWord l dC dI a0 s9 tx_pier ur kr r_r s.heap.size B o11 eo11) (cwV 1 hts gfX7_isName_0 rfl rfl rfl (by decide +kernel) ⟨(Nat.le_of_ble_eq_true rfl), (Nat.le_of_ble_eq_true rfl)⟩) (PVF hPc (hK.sub (tys' := (tX7 kr ([]))) [0, 1, 2] rfl) hDc hN hS hB hE (S1c xs9 S1n) 0 rfl rfl) rfl rfl hl.1 rfl (lv_room (Nat.le_of_ble_eq_true rfl)) (zat zrX7_isName_0_ok 6 rfl) ⟨(Nat.le_of_ble_eq_true rfl), (Nat.le_of_ble_eq_true rfl)⟩)) (fun r11 _ H locs hw hP hD _ hS => ?_)
    obtain ⟨hw, br11⟩ := hw
    obtain rfl := hw.symm
    obtain ⟨hP, hD⟩ := pd_mk (bX7 a0 ur kr r_r []) hP hD
    refine lv_if_ne (tgt := 66) hx hb (zat zrX7_isName_0_ok 7 rfl) (by decide) (fun c14 => ?_) (fun c14 => ?_)
    · have h := (if_neg c14).symm.trans h
      refine lv_iconst (v := 0) hx hb (zat zrX7_isName_0_ok 30 rfl) (by decide) ?_
      obtain rfl := Option.some.inj h
      obtain ⟨hP9, hD9⟩ := pd_sub (bX7 a0 ur kr r_r []) [0, 1, 2, 3] hP hD (by decide) rfl
      have hK9 := hK.sub (tys' := []) [] rfl
      rw [hQQ]
      exact W.zret (v := (0 : Int32)) hx hb hr rfl (fun t ht hW => ⟨⟨(0 : Int32), (), rfl, ⟨rfl, (by decide)⟩, by rw [ht]; exact hP9, va_K.moved hW.alike hK9, hD9⟩, hS.F ht⟩) hS.2.2 (zat zrX7_isName_0_ok 31 rfl)
    · have h := (if_pos c14).symm.trans h
      refine lv_aload_n hx hb (zat zrX7_isName_0_ok 8 rfl) rfl (lv_at hl 0 rfl) ?_
      obtain ⟨s18, hs18, xs18⟩ := hE.1 (RX7, 88, "bait", tx_bait) (List.mem_of_getElem? (i := 5) rfl)
      refine va_ldcS hx hb hown hs18 (zat zrX7_isName_0_ok 9 rfl) ?_
      obtain ⟨o20, eo20, h⟩ := bd_of h
      refine ck_i (wc := (bX7 a0 ur kr r_r [])) (wr := []) hP hD hK hS hA [0, 1, 2, 3] [] rfl rfl (by decide) (by decide) (by decide) (fun hPc hDc => (va_runV (As := [.ref s18]) (rest := []) ⟨hx, hb, hml, hown, hts⟩ (kfX7_isWord l dC dI a0 s18 tx_bait ur kr r_r H.size B o20 eo20) (cwV 1 hts gfX7_isName_0 rfl rfl rfl (by decide +kernel) ⟨(Nat.le_of_ble_eq_true rfl), (Nat.le_of_ble_eq_true rfl)⟩) (PVF hPc (hK.sub (tys' := (tX7 kr ([]))) [0, 1, 2] rfl) hDc hN hS hB hE (S1c xs18 S1n) 0 rfl rfl) rfl rfl hl.1 rfl (lv_room (Nat.le_of_ble_eq_true rfl)) (zat zrX7_isName_0_ok 10 rfl) ⟨(Nat.le_of_ble_eq_true rfl), (Nat.le_of_ble_eq_true rfl)⟩)) (fun r20 _ H locs hw hP hD _ hS => ?_)
      obtain ⟨hw, br20⟩ := hw
      obtain rfl := hw.symm
      obtain ⟨hP, hD⟩ := pd_mk (bX7 a0 ur kr r_r []) hP hD
      refine lv_if_ne (tgt := 66) hx hb (zat zrX7_isName_0_ok 11 rfl) (by decide) (fun c23 => ?_) (fun c23 => ?_)
      · have h := (if_neg c23).symm.trans h
        refine lv_iconst (v := 0) hx hb (zat zrX7_isName_0_ok 30 rfl) (by decide) ?_
        obtain rfl := Option.some.inj h
        obtain ⟨hP9, hD9⟩ := pd_sub (bX7 a0 ur kr r_r []) [0, 1, 2, 3] hP hD (by decide) rfl
        have hK9 := hK.sub (tys' := []) [] rfl
        rw [hQQ]
        exact W.zret (v := (0 : Int32)) hx hb hr rfl (fun t ht hW => ⟨⟨(0 : Int32), (), rfl, ⟨rfl, (by decide)⟩, by rw [ht]; exact hP9, va_K.moved hW.alike hK9, hD9⟩, hS.F ht⟩) hS.2.2 (zat zrX7_isName_0_ok 31 rfl)
      · have h := (if_pos c23).symm.trans h
        refine lv_aload_n hx hb (zat zrX7_isName_0_ok 12 rfl) rfl (lv_at hl 0 rfl) ?_
        obtain ⟨s27, hs27, xs27⟩ := hE.1 (RX7, 97, "asker", tx_asker) (List.mem_of_getElem? (i := 6) rfl)
        refine va_ldcS hx hb hown hs27 (zat zrX7_isName_0_ok 13 rfl) ?_
        obtain ⟨o29, eo29, h⟩ := bd_of h
        refine ck_i (wc := (bX7 a0 ur kr r_r [])) (wr := []) hP hD hK hS hA [0, 1, 2, 3] [] rfl rfl (by decide) (by decide) (by decide) (fun hPc hDc => (va_runV (As := [.ref s27]) (rest := []) ⟨hx, hb, hml, hown, hts⟩ (kfX7_isWord l dC dI a0 s27 tx_asker ur kr r_r H.size B o29 eo29) (cwV 1 hts gfX7_isName_0 rfl rfl rfl (by decide +kernel) ⟨(Nat.le_of_ble_eq_true rfl), (Nat.le_of_ble_eq_true rfl)⟩) (PVF hPc (hK.sub (tys' := (tX7 kr ([]))) [0, 1, 2] rfl) hDc hN hS hB hE (S1c xs27 S1n) 0 rfl rfl) rfl rfl hl.1 rfl (lv_room (Nat.le_of_ble_eq_true rfl)) (zat zrX7_isName_0_ok 14 rfl) ⟨(Nat.le_of_ble_eq_true rfl), (Nat.le_of_ble_eq_true rfl)⟩)) (fun r29 _ H locs hw hP hD _ hS => ?_)
        obtain ⟨hw, br29⟩ := hw
        obtain rfl := hw.symm
        obtain ⟨hP, hD⟩ := pd_mk (bX7 a0 ur kr r_r []) hP hD
        refine lv_if_ne (tgt := 66) hx hb (zat zrX7_isName_0_ok 15 rfl) (by decide) (fun c32 => ?_) (fun c32 => ?_)
        · have h := (if_neg c32).symm.trans h
          refine lv_iconst (v := 0) hx hb (zat zrX7_isName_0_ok 30 rfl) (by decide) ?_
          obtain rfl := Option.some.inj h
          obtain ⟨hP9, hD9⟩ := pd_sub (bX7 a0 ur kr r_r []) [0, 1, 2, 3] hP hD (by decide) rfl
          have hK9 := hK.sub (tys' := []) [] rfl
          rw [hQQ]
          exact W.zret (v := (0 : Int32)) hx hb hr rfl (fun t ht hW => ⟨⟨(0 : Int32), (), rfl, ⟨rfl, (by decide)⟩, by rw [ht]; exact hP9, va_K.moved hW.alike hK9, hD9⟩, hS.F ht⟩) hS.2.2 (zat zrX7_isName_0_ok 31 rfl)
        · have h := (if_pos c32).symm.trans h
          refine lv_aload_n hx hb (zat zrX7_isName_0_ok 16 rfl) rfl (lv_at hl 0 rfl) ?_
          obtain ⟨s36, hs36, xs36⟩ := hE.1 (RX7, 105, "answer", tx_answer) (List.mem_of_getElem? (i := 7) rfl)
          refine va_ldcS hx hb hown hs36 (zat zrX7_isName_0_ok 17 rfl) ?_
          obtain ⟨o38, eo38, h⟩ := bd_of h
          refine ck_i (wc := (bX7 a0 ur kr r_r [])) (wr := []) hP hD hK hS hA [0, 1, 2, 3] [] rfl rfl (by decide) (by decide) (by decide) (fun hPc hDc => (va_runV (As := [.ref s36]) (rest := []) ⟨hx, hb, hml, hown, hts⟩ (kfX7_isWord l dC dI a0 s36 tx_answer ur kr r_r H.size B o38 eo38) (cwV 1 hts gfX7_isName_0 rfl rfl rfl (by decide +kernel) ⟨(Nat.le_of_ble_eq_true rfl), (Nat.le_of_ble_eq_true rfl)⟩) (PVF hPc (hK.sub (tys' := (tX7 kr ([]))) [0, 1, 2] rfl) hDc hN hS hB hE (S1c xs36 S1n) 0 rfl rfl) rfl rfl hl.1 rfl (lv_room (Nat.le_of_ble_eq_true rfl)) (zat zrX7_isName_0_ok 18 rfl) ⟨(Nat.le_of_ble_eq_true rfl), (Nat.le_of_ble_eq_true rfl)⟩)) (fun r38 _ H locs hw hP hD _ hS => ?_)
          obtain ⟨hw, br38⟩ := hw
          obtain rfl := hw.symm
          obtain ⟨hP, hD⟩ := pd_mk (bX7 a0 ur kr r_r []) hP hD
          refine lv_if_ne (tgt := 66) hx hb (zat zrX7_isName_0_ok 19 rfl) (by decide) (fun c41 => ?_) (fun c41 => ?_)
          · have h := (if_neg c41).symm.trans h
            refine lv_iconst (v := 0) hx hb (zat zrX7_isName_0_ok 30 rfl) (by decide) ?_
            obtain rfl := Option.some.inj h
            obtain ⟨hP9, hD9⟩ := pd_sub (bX7 a0 ur kr r_r []) [0, 1, 2, 3] hP hD (by decide) rfl
            have hK9 := hK.sub (tys' := []) [] rfl
            rw [hQQ]
            exact W.zret (v := (0 : Int32)) hx hb hr rfl (fun t ht hW => ⟨⟨(0 : Int32), (), rfl, ⟨rfl, (by decide)⟩, by rw [ht]; exact hP9, va_K.moved hW.alike hK9, hD9⟩, hS.F ht⟩) hS.2.2 (zat zrX7_isName_0_ok 31 rfl)
          · have h := (if_pos c41).symm.trans h
            refine lv_aload_n hx hb (zat zrX7_isName_0_ok 20 rfl) rfl (lv_at hl 0 rfl) ?_
            obtain ⟨s45, hs45, xs45⟩ := hE.1 (RX7, 113, "dark", tx_dark) (List.mem_of_getElem? (i := 8) rfl)
            refine va_ldcS hx hb hown hs45 (zat zrX7_isName_0_ok 21 rfl) ?_
            obtain ⟨o47, eo47, h⟩ := bd_of h
            refine ck_i (wc := (bX7 a0 ur kr r_r [])) (wr := []) hP hD hK hS hA [0, 1, 2, 3] [] rfl rfl (by decide) (by decide) (by decide) (fun hPc hDc => (va_runV (As := [.ref s45]) (rest := []) ⟨hx, hb, hml, hown, hts⟩ (kfX7_isWord l dC dI a0 s45 tx_dark ur kr r_r H.size B o47 eo47) (cwV 1 hts gfX7_isName_0 rfl rfl rfl (by decide +kernel) ⟨(Nat.le_of_ble_eq_true rfl), (Nat.le_of_ble_eq_true rfl)⟩) (PVF hPc (hK.sub (tys' := (tX7 kr ([]))) [0, 1, 2] rfl) hDc hN hS hB hE (S1c xs45 S1n) 0 rfl rfl) rfl rfl hl.1 rfl (lv_room (Nat.le_of_ble_eq_true rfl)) (zat zrX7_isName_0_ok 22 rfl) ⟨(Nat.le_of_ble_eq_true rfl), (Nat.le_of_ble_eq_true rfl)⟩)) (fun r47 _ H locs hw hP hD _ hS => ?_)
            obtain ⟨hw, br47⟩ := hw
            obtain rfl := hw.symm
            obtain ⟨hP, hD⟩ := pd_mk (bX7 a0 ur kr r_r []) hP hD
            refine lv_if_ne (tgt := 66) hx hb (zat zrX7_isName_0_ok 23 rfl) (by decide) (fun c50 => ?_) (fun c50 => ?_)
            · have h := (if_neg c50).symm.trans h
              refine lv_iconst (v := 0) hx hb (zat zrX7_isName_0_ok 30 rfl) (by decide) ?_
              obtain rfl := Option.some.inj h
              obtain ⟨hP9, hD9⟩ := pd_sub (bX7 a0 ur kr r_r []) [0, 1, 2, 3] hP hD (by decide) rfl
              have hK9 := hK.sub (tys' := []) [] rfl
              rw [hQQ]
              exact W.zret (v := (0 : Int32)) hx hb hr rfl (fun t ht hW => ⟨⟨(0 : Int32), (), rfl, ⟨rfl, (by decide)⟩, by rw [ht]; exact hP9, va_K.moved hW.alike hK9, hD9⟩, hS.F ht⟩) hS.2.2 (zat zrX7_isName_0_ok 31 rfl)
            · have h := (if_pos c50).symm.trans h
              refine lv_aload_n hx hb (zat zrX7_isName_0_ok 24 rfl) rfl (lv_at hl 0 rfl) ?_
              obtain ⟨s54, hs54, xs54⟩ := hE.1 (RX7, 121, "bite", tx_bite) (List.mem_of_getElem? (i := 9) rfl)
              refine va_ldcS hx hb hown hs54 (zat zrX7_isName_0_ok 25 rfl) ?_
              obtain ⟨o56, eo56, h⟩ := bd_of h
              refine ck_i (wc := (bX7 a0 ur kr r_r [])) (wr := []) hP hD hK hS hA [0, 1, 2, 3] [] rfl rfl (by decide) (by decide) (by decide) (fun hPc hDc => (va_runV (As := [.ref s54]) (rest := []) ⟨hx, hb, hml, hown, hts⟩ (kfX7_isWord l dC dI a0 s54 tx_bite ur kr r_r H.size B o56 eo56) (cwV 1 hts gfX7_isName_0 rfl rfl rfl (by decide +kernel) ⟨(Nat.le_of_ble_eq_true rfl), (Nat.le_of_ble_eq_true rfl)⟩) (PVF hPc (hK.sub (tys' := (tX7 kr ([]))) [0, 1, 2] rfl) hDc hN hS hB hE (S1c xs54 S1n) 0 rfl rfl) rfl rfl hl.1 rfl (lv_room (Nat.le_of_ble_eq_true rfl)) (zat zrX7_isName_0_ok 26 rfl) ⟨(Nat.le_of_ble_eq_true rfl), (Nat.le_of_ble_eq_true rfl)⟩)) (fun r56 _ H locs hw hP hD _ hS => ?_)
              obtain ⟨hw, br56⟩ := hw
              obtain rfl := hw.symm
              obtain ⟨hP, hD⟩ := pd_mk (bX7 a0 ur kr r_r []) hP hD
              refine lv_if_ne (tgt := 66) hx hb (zat zrX7_isName_0_ok 27 rfl) (by decide) (fun c59 => ?_) (fun c59 => ?_)
              · have h := (if_neg c59).symm.trans h
                refine lv_iconst (v := 0) hx hb (zat zrX7_isName_0_ok 30 rfl) (by decide) ?_
                obtain rfl := Option.some.inj h
                obtain ⟨hP9, hD9⟩ := pd_sub (bX7 a0 ur kr r_r []) [0, 1, 2, 3] hP hD (by decide) rfl
                have hK9 := hK.sub (tys' := []) [] rfl
                rw [hQQ]
                exact W.zret (v := (0 : Int32)) hx hb hr rfl (fun t ht hW => ⟨⟨(0 : Int32), (), rfl, ⟨rfl, (by decide)⟩, by rw [ht]; exact hP9, va_K.moved hW.alike hK9, hD9⟩, hS.F ht⟩) hS.2.2 (zat zrX7_isName_0_ok 31 rfl)
              · have h := (if_pos c59).symm.trans h
                refine lv_iconst (v := 1) hx hb (zat zrX7_isName_0_ok 28 rfl) (by decide) ?_
                refine lv_goto (tgt := 67) hx hb (zat zrX7_isName_0_ok 29 rfl) (by decide) ?_
                obtain rfl := Option.some.inj h
                obtain ⟨hP9, hD9⟩ := pd_sub (bX7 a0 ur kr r_r []) [0, 1, 2, 3] hP hD (by decide) rfl
                have hK9 := hK.sub (tys' := []) [] rfl
                rw [hQQ]
                exact W.zret (v := (1 : Int32)) hx hb hr rfl (fun t ht hW => ⟨⟨(1 : Int32), (), rfl, ⟨rfl, (by decide)⟩, by rw [ht]; exact hP9, va_K.moved hW.alike hK9, hD9⟩, hS.F ht⟩) hS.2.2 (zat zrX7_isName_0_ok 31 rfl)
noncomputable def zrX7_takeKind_0 : List ZR := zc 0 true (.aload_n 0) 1 (zc 1 true (.ldc 208) 2 (zc 3 true (.invokevirtual 78) 3 (zc 6 true (.ifCond .eq 11) 3 (zc 9 true (.aload_n 0) 1 (zc 10 true (.iconst 0) 1 (zc 11 true (.putfield 31) 3 (zc 14 true (.goto 60) 3 (zc 17 true (.aload_n 0) 1 (zc 18 true (.ldc 210) 2 (zc 20 true (.invokevirtual 78) 3 (zc 23 true (.ifCond .eq 11) 3 (zc 26 true (.aload_n 0) 1 (zc 27 true (.iconst 1) 1 (zc 28 true (.putfield 31) 3 (zc 31 true (.goto 43) 3 (zc 34 true (.aload_n 0) 1 (zc 35 true (.ldc 212) 2 (zc 37 true (.invokevirtual 78) 3 (zc 40 true (.ifCond .eq 11) 3 (zc 43 true (.aload_n 0) 1 (zc 44 true (.iconst 2) 1 (zc 45 true (.putfield 31) 3 (zc 48 true (.goto 26) 3 (zc 51 true (.aload_n 0) 1 (zc 52 true (.ldc 214) 2 (zc 54 true (.invokevirtual 78) 3 (zc 57 true (.ifCond .eq 11) 3 (zc 60 true (.aload_n 0) 1 (zc 61 true (.iconst 3) 1 (zc 62 true (.putfield 31) 3 (zc 65 true (.goto 9) 3 (zc 68 true (.aload_n 0) 1 (zc 69 true (.iconst 1) 1 (zc 70 true (.invokevirtual 72) 3 (zc 73 true (.ireturn) 1 (zc 74 true (.aload_n 0) 1 (zc 75 true (.invokevirtual 62) 3 (zc 78 true (.iconst 1) 1 (zc 79 true (.ireturn) 1 ([]))))))))))))))))))))))))))))))))))))))))
theorem zrX7_takeKind_0_ok : zck 0 ((zby cX7_takeKind).drop 0) zrX7_takeKind_0 = true := by decide +kernel
def vfX7_takeKind : List Cond := List.cons (.code yX7_takeKind cX7_takeKind 1 (some .boolean)) (apW [.methodLink RX7 78 yX7_isWord, .instanceMethod yX7_isWord, .selects RX7 yX7_isWord yX7_isWord, .initialized RX7, .methodLink RX7 62 yX7_advance, .instanceMethod yX7_advance, .selects RX7 yX7_advance yX7_advance, .methodLink RX7 72 yX7_fail, .instanceMethod yX7_fail, .selects RX7 yX7_fail yX7_fail, .fieldLink RX7 31 "HookPier$Reader" "value" "I"] (apW wsX70 (apW vfX7_isWord (apW vfX7_advance (vfX7_fail)))))
theorem ifX7_takeKind_X7 : ∀ w ∈ wsX70, w ∈ vfX7_takeKind := fun _ h => (List.mem_cons_of_mem _ (List.mem_append_right _ (List.mem_append_left _ h)))
theorem qfX7_takeKind : Good vfX7_takeKind := gd_cons (by decide +kernel) (gd_app (gd_dec (by decide +kernel) : Good [.methodLink RX7 78 yX7_isWord, .instanceMethod yX7_isWord, .selects RX7 yX7_isWord yX7_isWord, .initialized RX7, .methodLink RX7 62 yX7_advance, .instanceMethod yX7_advance, .selects RX7 yX7_advance yX7_advance, .methodLink RX7 72 yX7_fail, .instanceMethod yX7_fail, .selects RX7 yX7_fail yX7_fail, .fieldLink RX7 31 "HookPier$Reader" "value" "I"]) (gd_app qsX7 (gd_app qfX7_isWord (gd_app qfX7_advance qfX7_fail))))
theorem gfX7_takeKind_0 : GoodIn vfX7_takeKind (wsV RX7 78 RX7 yX7_isWord vfX7_isWord) := goodIn_app (goodIn_r [.methodLink RX7 78 yX7_isWord, .instanceMethod yX7_isWord, .selects RX7 yX7_isWord yX7_isWord, .initialized RX7] [1, 2, 3, 4] rfl (by decide +kernel)) (goodIn_m (fun _ h => (List.mem_cons_of_mem _ (List.mem_append_right _ (List.mem_append_right _ (List.mem_append_left _ h))))) qfX7_isWord)
theorem gfX7_takeKind_1 : GoodIn vfX7_takeKind (wsV RX7 62 RX7 yX7_advance vfX7_advance) := goodIn_app (goodIn_r [.methodLink RX7 62 yX7_advance, .instanceMethod yX7_advance, .selects RX7 yX7_advance yX7_advance, .initialized RX7] [5, 6, 7, 4] rfl (by decide +kernel)) (goodIn_m (fun _ h => (List.mem_cons_of_mem _ (List.mem_append_right _ (List.mem_append_right _ (List.mem_append_right _ (List.mem_append_left _ h)))))) qfX7_advance)
theorem gfX7_takeKind_2 : GoodIn vfX7_takeKind (wsV RX7 72 RX7 yX7_fail vfX7_fail) := goodIn_app (goodIn_r [.methodLink RX7 72 yX7_fail, .instanceMethod yX7_fail, .selects RX7 yX7_fail yX7_fail, .initialized RX7] [8, 9, 10, 4] rfl (by decide +kernel)) (goodIn_m (fun _ h => (List.mem_cons_of_mem _ (List.mem_append_right _ (List.mem_append_right _ (List.mem_append_right _ (List.mem_append_right _ h)))))) qfX7_fail)
set_option maxHeartbeats 2000000 in
set_option maxRecDepth 100000 in
theorem kfX7_takeKind (l : Launch) (dC : Nat → ClassId) (dI : Nat → Nat → Nat) (a0 : Nat) (ur : Nat → Nat) (kr : Nat → ClassId) (r_r : TX7_r) (sz : Nat) (B : Nat) (out : (Int32 × TX7_r)) (h : f_X7_takeKind r_r = some out) : Met l yX7_takeKind vfX7_takeKind ({ frames := 5, cells := 0, slots := 0, locals := 107 }) (PF (dC, dI) B [.ref a0] sz (bX7 a0 ur kr r_r []) (tX7 kr ([])) []) (va_Qi (S := Unit) (fun (r : Int32) _ => r = out.1 ∧ (0 ≤ r.toInt ∧ r.toInt ≤ 1)) (fun _ t => BC (dC, dI) (va_A (bX7 a0 ur kr r_r []) sz) (bX7 a0 ur kr out.2 []) [] t) (va_A (bX7 a0 ur kr r_r []) sz)) 0 0 (va_A (bX7 a0 ur kr r_r []) sz) := by
  refine Met.ofW (cc := cX7_takeKind) (maxL := 1) (ret := (some .boolean)) (by decide) rfl ?_
  intro p e s m args below meth c s₁ B0 hml hv
  obtain ⟨rfl, hsz, hP, hK, hD0, hN, hBs, hE, hX⟩ := hv
  have hBA := PF_reg hD0 hBs
  have hx := B0.exec
  have hb := B0.bytes
  have hr := B0.returns
  have hts := atoms_spec (ws := vfX7_takeKind) B0.pre
  have hown : s.vm.findClass RX7 = some m.cls := findClass_of_methodNamed B0.named
  have hlocks := B0.notSynchronized
  subst hsz
  have hD := hD0.self (sz := s.heap.size)
  generalize hAe : va_A (bX7 a0 ur kr r_r []) s.heap.size = A at hD hBA ⊢
  have hA : ∀ q : Nat, s.heap.size ≤ q → A q := fun q h => by rw [← hAe]; exact Or.inr h
  have hS : va_S A s.heap s.heap [] := va_S.rf
  have hP : va_P (dC, dI) vwCl (bX7 a0 ur kr r_r []) s.heap := hP
  have hl := lv_entry ([.ref a0]) (n := 1) (Nat.le_of_ble_eq_true rfl)
  rw [lg_entry_eq]
  generalize (lg_sl ([.ref a0]) ++ List.replicate (1 - (lg_sl ([.ref a0])).length) Slot.unset).toArray = ls at hl ⊢
  have hl : lv_has ls 1 [(0, .ref a0)] := hl
  have hB : RB B s A := ⟨hBA, hBs⟩
  refine W_q (fun QQ hQQ => ?_)
  rw [f_X7_takeKind] at h
  refine lv_aload_n hx hb (zat zrX7_takeKind_0_ok 0 rfl) rfl (lv_at hl 0 rfl) ?_
  obtain ⟨s1, hs1, xs1⟩ := hE.1 (RX7, 208, "plain", tx_plain) (List.mem_of_getElem? (i := 11) rfl)
  refine va_ldcS hx hb hown hs1 (zat zrX7_takeKind_0_ok 1 rfl) ?_
  obtain ⟨o3, eo3, h⟩ := bd_of h
  refine ck_i (wc := (bX7 a0 ur kr r_r [])) (wr := []) hP hD hK hS hA [0, 1, 2, 3] [] rfl rfl (by decide) (by decide) (by decide) (fun hPc hDc => (va_runV (As := [.ref s1]) (rest := []) ⟨hx, hb, hml, hown, hts⟩ (kfX7_isWord l dC dI a0 s1 tx_plain ur kr r_r s.heap.size B o3 eo3) (cwV 1 hts gfX7_takeKind_0 rfl rfl rfl (by decide +kernel) ⟨(Nat.le_of_ble_eq_true rfl), (Nat.le_of_ble_eq_true rfl)⟩) (PVF hPc (hK.sub (tys' := (tX7 kr ([]))) [0, 1, 2] rfl) hDc hN hS hB hE (S1c xs1 S1n) 0 rfl rfl) rfl rfl hl.1 rfl (lv_room (Nat.le_of_ble_eq_true rfl)) (zat zrX7_takeKind_0_ok 2 rfl) ⟨(Nat.le_of_ble_eq_true rfl), (Nat.le_of_ble_eq_true rfl)⟩)) (fun r3 _ H locs hw hP hD _ hS => ?_)
  obtain ⟨hw, br3⟩ := hw
  obtain rfl := hw.symm
  obtain ⟨hP, hD⟩ := pd_mk (bX7 a0 ur kr r_r []) hP hD
  have J74 : ∀ (v74_r_r : TX7_r) (H : Heap) (locs : List Loc) (ls : Array Slot), f_X7_takeKind_J74 v74_r_r = some out → va_P (dC, dI) vwCl (bX7 a0 ur kr v74_r_r []) H → va_D A (bX7 a0 ur kr v74_r_r []) → va_S A s.heap H locs → lv_has ls 1 [(0, .ref a0)] → W p l e (headSpec vfX7_takeKind { frames := 5, cells := 0, slots := 0, locals := 107 }).room s m ([.ref a0]).toArray below meth c H locs 0 0 QQ (F0 m 74 ls []) := by
    intro v74_r_r H locs ls h  hP hD hS hl
    rw [f_X7_takeKind_J74] at h
    refine lv_aload_n hx hb (zat zrX7_takeKind_0_ok 36 rfl) rfl (lv_at hl 0 rfl) ?_
    obtain ⟨o75, eo75, h⟩ := bd_of h
    refine ck_v (wc := (bX7 a0 ur kr v74_r_r [])) (wr := []) hP hD hK hS hA [0, 1, 2, 3] [] rfl rfl (by decide) (by decide) (by decide) (fun hPc hDc => (va_runV (As := []) (rest := []) ⟨hx, hb, hml, hown, hts⟩ (kfX7_advance l dC dI a0 ur kr v74_r_r H.size o75 eo75) (cwV 0 hts gfX7_takeKind_1 rfl rfl rfl (by decide +kernel) ⟨(Nat.le_of_ble_eq_true rfl), (Nat.le_of_ble_eq_true rfl)⟩) (PV hPc (hK.sub (tys' := (tX7 kr ([]))) [0, 1, 2] rfl) hDc hN 0 rfl rfl) rfl rfl hl.1 rfl (lv_room (Nat.le_of_ble_eq_true rfl)) (zat zrX7_takeKind_0_ok 37 rfl) ⟨(Nat.le_of_ble_eq_true rfl), (Nat.le_of_ble_eq_true rfl)⟩)) (fun _ H locs hw hP hD _ hS => ?_)
    obtain ⟨hP, hD⟩ := pd_mk (bX7 a0 ur kr o75 []) hP hD
    refine lv_iconst (v := 1) hx hb (zat zrX7_takeKind_0_ok 38 rfl) (by decide) ?_
    obtain rfl := Option.some.inj h
    obtain ⟨hP9, hD9⟩ := pd_sub (bX7 a0 ur kr o75 []) [0, 1, 2, 3] hP hD (by decide) rfl
    have hK9 := hK.sub (tys' := []) [] rfl
    rw [hQQ]
    exact W.zret (v := (1 : Int32)) hx hb hr rfl (fun t ht hW => ⟨⟨(1 : Int32), (), rfl, ⟨rfl, (by decide)⟩, by rw [ht]; exact hP9, va_K.moved hW.alike hK9, hD9⟩, hS.F ht⟩) hS.2.2 (zat zrX7_takeKind_0_ok 39 rfl)
  refine lv_if_eq (tgt := 17) hx hb (zat zrX7_takeKind_0_ok 3 rfl) (by decide) (fun c6 => ?_) (fun c6 => ?_)
  · have h := (if_pos c6).symm.trans h
    refine lv_aload_n hx hb (zat zrX7_takeKind_0_ok 8 rfl) rfl (lv_at hl 0 rfl) ?_
    obtain ⟨s18, hs18, xs18⟩ := hE.1 (RX7, 210, "cold", tx_cold) (List.mem_of_getElem? (i := 12) rfl)
    refine va_ldcS hx hb hown hs18 (zat zrX7_takeKind_0_ok 9 rfl) ?_
    obtain ⟨o20, eo20, h⟩ := bd_of h
    refine ck_i (wc := (bX7 a0 ur kr r_r [])) (wr := []) hP hD hK hS hA [0, 1, 2, 3] [] rfl rfl (by decide) (by decide) (by decide) (fun hPc hDc => (va_runV (As := [.ref s18]) (rest := []) ⟨hx, hb, hml, hown, hts⟩ (kfX7_isWord l dC dI a0 s18 tx_cold ur kr r_r H.size B o20 eo20) (cwV 1 hts gfX7_takeKind_0 rfl rfl rfl (by decide +kernel) ⟨(Nat.le_of_ble_eq_true rfl), (Nat.le_of_ble_eq_true rfl)⟩) (PVF hPc (hK.sub (tys' := (tX7 kr ([]))) [0, 1, 2] rfl) hDc hN hS hB hE (S1c xs18 S1n) 0 rfl rfl) rfl rfl hl.1 rfl (lv_room (Nat.le_of_ble_eq_true rfl)) (zat zrX7_takeKind_0_ok 10 rfl) ⟨(Nat.le_of_ble_eq_true rfl), (Nat.le_of_ble_eq_true rfl)⟩)) (fun r20 _ H locs hw hP hD _ hS => ?_)
    obtain ⟨hw, br20⟩ := hw
    obtain rfl := hw.symm
    obtain ⟨hP, hD⟩ := pd_mk (bX7 a0 ur kr r_r []) hP hD
    refine lv_if_eq (tgt := 34) hx hb (zat zrX7_takeKind_0_ok 11 rfl) (by decide) (fun c23 => ?_) (fun c23 => ?_)
    · have h := (if_pos c23).symm.trans h
      refine lv_aload_n hx hb (zat zrX7_takeKind_0_ok 16 rfl) rfl (lv_at hl 0 rfl) ?_
      obtain ⟨s35, hs35, xs35⟩ := hE.1 (RX7, 212, "crab", tx_crab) (List.mem_of_getElem? (i := 13) rfl)
      refine va_ldcS hx hb hown hs35 (zat zrX7_takeKind_0_ok 17 rfl) ?_
      obtain ⟨o37, eo37, h⟩ := bd_of h
      refine ck_i (wc := (bX7 a0 ur kr r_r [])) (wr := []) hP hD hK hS hA [0, 1, 2, 3] [] rfl rfl (by decide) (by decide) (by decide) (fun hPc hDc => (va_runV (As := [.ref s35]) (rest := []) ⟨hx, hb, hml, hown, hts⟩ (kfX7_isWord l dC dI a0 s35 tx_crab ur kr r_r H.size B o37 eo37) (cwV 1 hts gfX7_takeKind_0 rfl rfl rfl (by decide +kernel) ⟨(Nat.le_of_ble_eq_true rfl), (Nat.le_of_ble_eq_true rfl)⟩) (PVF hPc (hK.sub (tys' := (tX7 kr ([]))) [0, 1, 2] rfl) hDc hN hS hB hE (S1c xs35 S1n) 0 rfl rfl) rfl rfl hl.1 rfl (lv_room (Nat.le_of_ble_eq_true rfl)) (zat zrX7_takeKind_0_ok 18 rfl) ⟨(Nat.le_of_ble_eq_true rfl), (Nat.le_of_ble_eq_true rfl)⟩)) (fun r37 _ H locs hw hP hD _ hS => ?_)
      obtain ⟨hw, br37⟩ := hw
      obtain rfl := hw.symm
      obtain ⟨hP, hD⟩ := pd_mk (bX7 a0 ur kr r_r []) hP hD
      refine lv_if_eq (tgt := 51) hx hb (zat zrX7_takeKind_0_ok 19 rfl) (by decide) (fun c40 => ?_) (fun c40 => ?_)
      · have h := (if_pos c40).symm.trans h
        refine lv_aload_n hx hb (zat zrX7_takeKind_0_ok 24 rfl) rfl (lv_at hl 0 rfl) ?_
        obtain ⟨s52, hs52, xs52⟩ := hE.1 (RX7, 214, "boot", tx_boot) (List.mem_of_getElem? (i := 14) rfl)
        refine va_ldcS hx hb hown hs52 (zat zrX7_takeKind_0_ok 25 rfl) ?_
        obtain ⟨o54, eo54, h⟩ := bd_of h
        refine ck_i (wc := (bX7 a0 ur kr r_r [])) (wr := []) hP hD hK hS hA [0, 1, 2, 3] [] rfl rfl (by decide) (by decide) (by decide) (fun hPc hDc => (va_runV (As := [.ref s52]) (rest := []) ⟨hx, hb, hml, hown, hts⟩ (kfX7_isWord l dC dI a0 s52 tx_boot ur kr r_r H.size B o54 eo54) (cwV 1 hts gfX7_takeKind_0 rfl rfl rfl (by decide +kernel) ⟨(Nat.le_of_ble_eq_true rfl), (Nat.le_of_ble_eq_true rfl)⟩) (PVF hPc (hK.sub (tys' := (tX7 kr ([]))) [0, 1, 2] rfl) hDc hN hS hB hE (S1c xs52 S1n) 0 rfl rfl) rfl rfl hl.1 rfl (lv_room (Nat.le_of_ble_eq_true rfl)) (zat zrX7_takeKind_0_ok 26 rfl) ⟨(Nat.le_of_ble_eq_true rfl), (Nat.le_of_ble_eq_true rfl)⟩)) (fun r54 _ H locs hw hP hD _ hS => ?_)
        obtain ⟨hw, br54⟩ := hw
        obtain rfl := hw.symm
        obtain ⟨hP, hD⟩ := pd_mk (bX7 a0 ur kr r_r []) hP hD
        refine lv_if_eq (tgt := 68) hx hb (zat zrX7_takeKind_0_ok 27 rfl) (by decide) (fun c57 => ?_) (fun c57 => ?_)
        · have h := (if_pos c57).symm.trans h
          refine lv_aload_n hx hb (zat zrX7_takeKind_0_ok 32 rfl) rfl (lv_at hl 0 rfl) ?_
          refine lv_iconst (v := 1) hx hb (zat zrX7_takeKind_0_ok 33 rfl) (by decide) ?_
          obtain ⟨o70, eo70⟩ : ∃ o, o = f_X7_fail (1 : Int32) r_r := ⟨_, rfl⟩
          have h := nm_of h o70 eo70
          refine ck_i (wc := (bX7 a0 ur kr r_r [])) (wr := []) hP hD hK hS hA [0, 1, 2, 3] [] rfl rfl (by decide) (by decide) (by decide) (fun hPc hDc => (va_runV (As := [.int 1]) (rest := []) ⟨hx, hb, hml, hown, hts⟩ (kfX7_fail l dC dI a0 (1 : Int32) ur kr r_r H.size o70 eo70.symm) (cwV 1 hts gfX7_takeKind_2 rfl rfl rfl (by decide +kernel) ⟨(Nat.le_of_ble_eq_true rfl), (Nat.le_of_ble_eq_true rfl)⟩) (PV hPc (hK.sub (tys' := (tX7 kr ([]))) [0, 1, 2] rfl) hDc hN 0 rfl rfl) rfl rfl hl.1 rfl (lv_room (Nat.le_of_ble_eq_true rfl)) (zat zrX7_takeKind_0_ok 34 rfl) ⟨(Nat.le_of_ble_eq_true rfl), (Nat.le_of_ble_eq_true rfl)⟩)) (fun r70 _ H locs hw hP hD _ hS => ?_)
          obtain ⟨hw, br70⟩ := hw
          obtain rfl := hw
          obtain ⟨hP, hD⟩ := pd_mk (bX7 a0 ur kr o70 []) hP hD
          obtain rfl := Option.some.inj h
          obtain ⟨hP9, hD9⟩ := pd_sub (bX7 a0 ur kr o70 []) [0, 1, 2, 3] hP hD (by decide) rfl
          have hK9 := hK.sub (tys' := []) [] rfl
          rw [hQQ]
          exact W.zret (v := (0 : Int32)) hx hb hr rfl (fun t ht hW => ⟨⟨(0 : Int32), (), rfl, ⟨rfl, (by decide)⟩, by rw [ht]; exact hP9, va_K.moved hW.alike hK9, hD9⟩, hS.F ht⟩) hS.2.2 (zat zrX7_takeKind_0_ok 35 rfl)
        · have h := (if_neg c57).symm.trans h
          refine lv_aload_n hx hb (zat zrX7_takeKind_0_ok 28 rfl) rfl (lv_at hl 0 rfl) ?_
          refine lv_iconst (v := 3) hx hb (zat zrX7_takeKind_0_ok 29 rfl) (by decide) ?_
          refine va_put (D := (dC, dI)) (ci := 5) (v := .int 3) (ty := .int) (C := RX7) (T := TX7) (N := 12) hx hb hts ifX7_takeKind_X7 tyX7 tyX7_ok nmX7 hown hK hP hD hS 0 rfl rfl 6 (by decide) (hts (.fieldLink RX7 31 "HookPier$Reader" "value" "I") (List.mem_of_getElem? (i := 11) rfl)) (fun _ h9 => h9) rfl (by decide +kernel) rfl rfl (Nat.le_of_ble_eq_true rfl) (zat zrX7_takeKind_0_ok 30 rfl) (fun H locs hP hD hS => ?_)
          obtain ⟨hP, hD⟩ := pd_mk (bX7 a0 ur kr (r_r.1, r_r.2.1, r_r.2.2.1, r_r.2.2.2.1, r_r.2.2.2.2.1, r_r.2.2.2.2.2.1, (3 : Int32), r_r.2.2.2.2.2.2.2) []) hP hD
          refine lv_goto (tgt := 74) hx hb (zat zrX7_takeKind_0_ok 31 rfl) (by decide) ?_
          exact J74 (r_r.1, r_r.2.1, r_r.2.2.1, r_r.2.2.2.1, r_r.2.2.2.2.1, r_r.2.2.2.2.2.1, (3 : Int32), r_r.2.2.2.2.2.2.2) H _ ls h  hP hD hS (lv_sub hl [0] rfl)
      · have h := (if_neg c40).symm.trans h
        refine lv_aload_n hx hb (zat zrX7_takeKind_0_ok 20 rfl) rfl (lv_at hl 0 rfl) ?_
        refine lv_iconst (v := 2) hx hb (zat zrX7_takeKind_0_ok 21 rfl) (by decide) ?_
        refine va_put (D := (dC, dI)) (ci := 5) (v := .int 2) (ty := .int) (C := RX7) (T := TX7) (N := 12) hx hb hts ifX7_takeKind_X7 tyX7 tyX7_ok nmX7 hown hK hP hD hS 0 rfl rfl 6 (by decide) (hts (.fieldLink RX7 31 "HookPier$Reader" "value" "I") (List.mem_of_getElem? (i := 11) rfl)) (fun _ h9 => h9) rfl (by decide +kernel) rfl rfl (Nat.le_of_ble_eq_true rfl) (zat zrX7_takeKind_0_ok 22 rfl) (fun H locs hP hD hS => ?_)
        obtain ⟨hP, hD⟩ := pd_mk (bX7 a0 ur kr (r_r.1, r_r.2.1, r_r.2.2.1, r_r.2.2.2.1, r_r.2.2.2.2.1, r_r.2.2.2.2.2.1, (2 : Int32), r_r.2.2.2.2.2.2.2) []) hP hD
        refine lv_goto (tgt := 74) hx hb (zat zrX7_takeKind_0_ok 23 rfl) (by decide) ?_
        exact J74 (r_r.1, r_r.2.1, r_r.2.2.1, r_r.2.2.2.1, r_r.2.2.2.2.1, r_r.2.2.2.2.2.1, (2 : Int32), r_r.2.2.2.2.2.2.2) H _ ls h  hP hD hS (lv_sub hl [0] rfl)
    · have h := (if_neg c23).symm.trans h
      refine lv_aload_n hx hb (zat zrX7_takeKind_0_ok 12 rfl) rfl (lv_at hl 0 rfl) ?_
      refine lv_iconst (v := 1) hx hb (zat zrX7_takeKind_0_ok 13 rfl) (by decide) ?_
      refine va_put (D := (dC, dI)) (ci := 5) (v := .int 1) (ty := .int) (C := RX7) (T := TX7) (N := 12) hx hb hts ifX7_takeKind_X7 tyX7 tyX7_ok nmX7 hown hK hP hD hS 0 rfl rfl 6 (by decide) (hts (.fieldLink RX7 31 "HookPier$Reader" "value" "I") (List.mem_of_getElem? (i := 11) rfl)) (fun _ h9 => h9) rfl (by decide +kernel) rfl rfl (Nat.le_of_ble_eq_true rfl) (zat zrX7_takeKind_0_ok 14 rfl) (fun H locs hP hD hS => ?_)
      obtain ⟨hP, hD⟩ := pd_mk (bX7 a0 ur kr (r_r.1, r_r.2.1, r_r.2.2.1, r_r.2.2.2.1, r_r.2.2.2.2.1, r_r.2.2.2.2.2.1, (1 : Int32), r_r.2.2.2.2.2.2.2) []) hP hD
      refine lv_goto (tgt := 74) hx hb (zat zrX7_takeKind_0_ok 15 rfl) (by decide) ?_
      exact J74 (r_r.1, r_r.2.1, r_r.2.2.1, r_r.2.2.2.1, r_r.2.2.2.2.1, r_r.2.2.2.2.2.1, (1 : Int32), r_r.2.2.2.2.2.2.2) H _ ls h  hP hD hS (lv_sub hl [0] rfl)
  · have h := (if_neg c6).symm.trans h
    refine lv_aload_n hx hb (zat zrX7_takeKind_0_ok 4 rfl) rfl (lv_at hl 0 rfl) ?_
    refine lv_iconst (v := 0) hx hb (zat zrX7_takeKind_0_ok 5 rfl) (by decide) ?_
    refine va_put (D := (dC, dI)) (ci := 5) (v := .int 0) (ty := .int) (C := RX7) (T := TX7) (N := 12) hx hb hts ifX7_takeKind_X7 tyX7 tyX7_ok nmX7 hown hK hP hD hS 0 rfl rfl 6 (by decide) (hts (.fieldLink RX7 31 "HookPier$Reader" "value" "I") (List.mem_of_getElem? (i := 11) rfl)) (fun _ h9 => h9) rfl (by decide +kernel) rfl rfl (Nat.le_of_ble_eq_true rfl) (zat zrX7_takeKind_0_ok 6 rfl) (fun H locs hP hD hS => ?_)
    obtain ⟨hP, hD⟩ := pd_mk (bX7 a0 ur kr (r_r.1, r_r.2.1, r_r.2.2.1, r_r.2.2.2.1, r_r.2.2.2.2.1, r_r.2.2.2.2.2.1, (0 : Int32), r_r.2.2.2.2.2.2.2) []) hP hD
    refine lv_goto (tgt := 74) hx hb (zat zrX7_takeKind_0_ok 7 rfl) (by decide) ?_
    exact J74 (r_r.1, r_r.2.1, r_r.2.2.1, r_r.2.2.2.1, r_r.2.2.2.2.1, r_r.2.2.2.2.2.1, (0 : Int32), r_r.2.2.2.2.2.2.2) H _ ls h  hP hD hS (lv_sub hl [0] rfl)
noncomputable def zrX7_takeYes_0 : List ZR := zc 0 true (.aload_n 0) 1 (zc 1 true (.ldc 216) 2 (zc 3 true (.invokevirtual 78) 3 (zc 6 true (.ifCond .ne 18) 3 (zc 9 true (.aload_n 0) 1 (zc 10 true (.ldc 218) 2 (zc 12 true (.invokevirtual 78) 3 (zc 15 true (.ifCond .ne 9) 3 (zc 18 true (.aload_n 0) 1 (zc 19 true (.iconst 1) 1 (zc 20 true (.invokevirtual 72) 3 (zc 23 true (.ireturn) 1 (zc 24 true (.aload_n 0) 1 (zc 25 true (.aload_n 0) 1 (zc 26 true (.ldc 216) 2 (zc 28 true (.invokevirtual 78) 3 (zc 31 true (.ifCond .eq 7) 3 (zc 34 true (.iconst 1) 1 (zc 35 true (.goto 4) 3 (zc 38 true (.iconst 0) 1 (zc 39 true (.putfield 31) 3 (zc 42 true (.aload_n 0) 1 (zc 43 true (.invokevirtual 62) 3 (zc 46 true (.iconst 1) 1 (zc 47 true (.ireturn) 1 ([])))))))))))))))))))))))))
theorem zrX7_takeYes_0_ok : zck 0 ((zby cX7_takeYes).drop 0) zrX7_takeYes_0 = true := by decide +kernel
def vfX7_takeYes : List Cond := List.cons (.code yX7_takeYes cX7_takeYes 1 (some .boolean)) (apW [.methodLink RX7 78 yX7_isWord, .instanceMethod yX7_isWord, .selects RX7 yX7_isWord yX7_isWord, .initialized RX7, .fieldLink RX7 31 "HookPier$Reader" "value" "I", .methodLink RX7 62 yX7_advance, .instanceMethod yX7_advance, .selects RX7 yX7_advance yX7_advance, .methodLink RX7 72 yX7_fail, .instanceMethod yX7_fail, .selects RX7 yX7_fail yX7_fail] (apW wsX70 (apW vfX7_isWord (apW vfX7_advance (vfX7_fail)))))
theorem ifX7_takeYes_X7 : ∀ w ∈ wsX70, w ∈ vfX7_takeYes := fun _ h => (List.mem_cons_of_mem _ (List.mem_append_right _ (List.mem_append_left _ h)))
theorem qfX7_takeYes : Good vfX7_takeYes := gd_cons (by decide +kernel) (gd_app (gd_dec (by decide +kernel) : Good [.methodLink RX7 78 yX7_isWord, .instanceMethod yX7_isWord, .selects RX7 yX7_isWord yX7_isWord, .initialized RX7, .fieldLink RX7 31 "HookPier$Reader" "value" "I", .methodLink RX7 62 yX7_advance, .instanceMethod yX7_advance, .selects RX7 yX7_advance yX7_advance, .methodLink RX7 72 yX7_fail, .instanceMethod yX7_fail, .selects RX7 yX7_fail yX7_fail]) (gd_app qsX7 (gd_app qfX7_isWord (gd_app qfX7_advance qfX7_fail))))
theorem gfX7_takeYes_0 : GoodIn vfX7_takeYes (wsV RX7 78 RX7 yX7_isWord vfX7_isWord) := goodIn_app (goodIn_r [.methodLink RX7 78 yX7_isWord, .instanceMethod yX7_isWord, .selects RX7 yX7_isWord yX7_isWord, .initialized RX7] [1, 2, 3, 4] rfl (by decide +kernel)) (goodIn_m (fun _ h => (List.mem_cons_of_mem _ (List.mem_append_right _ (List.mem_append_right _ (List.mem_append_left _ h))))) qfX7_isWord)
theorem gfX7_takeYes_1 : GoodIn vfX7_takeYes (wsV RX7 62 RX7 yX7_advance vfX7_advance) := goodIn_app (goodIn_r [.methodLink RX7 62 yX7_advance, .instanceMethod yX7_advance, .selects RX7 yX7_advance yX7_advance, .initialized RX7] [6, 7, 8, 4] rfl (by decide +kernel)) (goodIn_m (fun _ h => (List.mem_cons_of_mem _ (List.mem_append_right _ (List.mem_append_right _ (List.mem_append_right _ (List.mem_append_left _ h)))))) qfX7_advance)
theorem gfX7_takeYes_2 : GoodIn vfX7_takeYes (wsV RX7 72 RX7 yX7_fail vfX7_fail) := goodIn_app (goodIn_r [.methodLink RX7 72 yX7_fail, .instanceMethod yX7_fail, .selects RX7 yX7_fail yX7_fail, .initialized RX7] [9, 10, 11, 4] rfl (by decide +kernel)) (goodIn_m (fun _ h => (List.mem_cons_of_mem _ (List.mem_append_right _ (List.mem_append_right _ (List.mem_append_right _ (List.mem_append_right _ h)))))) qfX7_fail)
set_option maxHeartbeats 2000000 in
set_option maxRecDepth 100000 in
theorem kfX7_takeYes (l : Launch) (dC : Nat → ClassId) (dI : Nat → Nat → Nat) (a0 : Nat) (ur : Nat → Nat) (kr : Nat → ClassId) (r_r : TX7_r) (sz : Nat) (B : Nat) (out : (Int32 × TX7_r)) (h : f_X7_takeYes r_r = some out) : Met l yX7_takeYes vfX7_takeYes ({ frames := 5, cells := 0, slots := 0, locals := 107 }) (PF (dC, dI) B [.ref a0] sz (bX7 a0 ur kr r_r []) (tX7 kr ([])) []) (va_Qi (S := Unit) (fun (r : Int32) _ => r = out.1 ∧ (0 ≤ r.toInt ∧ r.toInt ≤ 1)) (fun _ t => BC (dC, dI) (va_A (bX7 a0 ur kr r_r []) sz) (bX7 a0 ur kr out.2 []) [] t) (va_A (bX7 a0 ur kr r_r []) sz)) 0 0 (va_A (bX7 a0 ur kr r_r []) sz) := by
  refine Met.ofW (cc := cX7_takeYes) (maxL := 1) (ret := (some .boolean)) (by decide) rfl ?_
  intro p e s m args below meth c s₁ B0 hml hv
  obtain ⟨rfl, hsz, hP, hK, hD0, hN, hBs, hE, hX⟩ := hv
  have hBA := PF_reg hD0 hBs
  have hx := B0.exec
  have hb := B0.bytes
  have hr := B0.returns
  have hts := atoms_spec (ws := vfX7_takeYes) B0.pre
  have hown : s.vm.findClass RX7 = some m.cls := findClass_of_methodNamed B0.named
  have hlocks := B0.notSynchronized
  subst hsz
  have hD := hD0.self (sz := s.heap.size)
  generalize hAe : va_A (bX7 a0 ur kr r_r []) s.heap.size = A at hD hBA ⊢
  have hA : ∀ q : Nat, s.heap.size ≤ q → A q := fun q h => by rw [← hAe]; exact Or.inr h
  have hS : va_S A s.heap s.heap [] := va_S.rf
  have hP : va_P (dC, dI) vwCl (bX7 a0 ur kr r_r []) s.heap := hP
  have hl := lv_entry ([.ref a0]) (n := 1) (Nat.le_of_ble_eq_true rfl)
  rw [lg_entry_eq]
  generalize (lg_sl ([.ref a0]) ++ List.replicate (1 - (lg_sl ([.ref a0])).length) Slot.unset).toArray = ls at hl ⊢
  have hl : lv_has ls 1 [(0, .ref a0)] := hl
  have hB : RB B s A := ⟨hBA, hBs⟩
  refine W_q (fun QQ hQQ => ?_)
  rw [f_X7_takeYes] at h
  refine lv_aload_n hx hb (zat zrX7_takeYes_0_ok 0 rfl) rfl (lv_at hl 0 rfl) ?_
  obtain ⟨s1, hs1, xs1⟩ := hE.1 (RX7, 216, "yes", tx_yes) (List.mem_of_getElem? (i := 21) rfl)
  refine va_ldcS hx hb hown hs1 (zat zrX7_takeYes_0_ok 1 rfl) ?_
  obtain ⟨o3, eo3, h⟩ := bd_of h
  refine ck_i (wc := (bX7 a0 ur kr r_r [])) (wr := []) hP hD hK hS hA [0, 1, 2, 3] [] rfl rfl (by decide) (by decide) (by decide) (fun hPc hDc => (va_runV (As := [.ref s1]) (rest := []) ⟨hx, hb, hml, hown, hts⟩ (kfX7_isWord l dC dI a0 s1 tx_yes ur kr r_r s.heap.size B o3 eo3) (cwV 1 hts gfX7_takeYes_0 rfl rfl rfl (by decide +kernel) ⟨(Nat.le_of_ble_eq_true rfl), (Nat.le_of_ble_eq_true rfl)⟩) (PVF hPc (hK.sub (tys' := (tX7 kr ([]))) [0, 1, 2] rfl) hDc hN hS hB hE (S1c xs1 S1n) 0 rfl rfl) rfl rfl hl.1 rfl (lv_room (Nat.le_of_ble_eq_true rfl)) (zat zrX7_takeYes_0_ok 2 rfl) ⟨(Nat.le_of_ble_eq_true rfl), (Nat.le_of_ble_eq_true rfl)⟩)) (fun r3 _ H locs hw hP hD _ hS => ?_)
  obtain ⟨hw, br3⟩ := hw
  obtain rfl := hw.symm
  obtain ⟨hP, hD⟩ := pd_mk (bX7 a0 ur kr r_r []) hP hD
  have J24 : ∀ (H : Heap) (locs : List Loc) (ls : Array Slot), f_X7_takeYes_J24 r_r = some out → va_P (dC, dI) vwCl (bX7 a0 ur kr r_r []) H → va_D A (bX7 a0 ur kr r_r []) → va_S A s.heap H locs → lv_has ls 1 [(0, .ref a0)] → W p l e (headSpec vfX7_takeYes { frames := 5, cells := 0, slots := 0, locals := 107 }).room s m ([.ref a0]).toArray below meth c H locs 0 0 QQ (F0 m 24 ls []) := by
    intro  H locs ls h  hP hD hS hl
    rw [f_X7_takeYes_J24] at h
    refine lv_aload_n hx hb (zat zrX7_takeYes_0_ok 12 rfl) rfl (lv_at hl 0 rfl) ?_
    refine lv_aload_n hx hb (zat zrX7_takeYes_0_ok 13 rfl) rfl (lv_at hl 0 rfl) ?_
    obtain ⟨s26, hs26, xs26⟩ := hE.1 (RX7, 216, "yes", tx_yes) (List.mem_of_getElem? (i := 21) rfl)
    refine va_ldcS hx hb hown hs26 (zat zrX7_takeYes_0_ok 14 rfl) ?_
    obtain ⟨o28, eo28, h⟩ := bd_of h
    refine ck_i (wc := (bX7 a0 ur kr r_r [])) (wr := []) hP hD hK hS hA [0, 1, 2, 3] [] rfl rfl (by decide) (by decide) (by decide) (fun hPc hDc => (va_runV (As := [.ref s26]) (rest := [.ref a0]) ⟨hx, hb, hml, hown, hts⟩ (kfX7_isWord l dC dI a0 s26 tx_yes ur kr r_r H.size B o28 eo28) (cwV 1 hts gfX7_takeYes_0 rfl rfl rfl (by decide +kernel) ⟨(Nat.le_of_ble_eq_true rfl), (Nat.le_of_ble_eq_true rfl)⟩) (PVF hPc (hK.sub (tys' := (tX7 kr ([]))) [0, 1, 2] rfl) hDc hN hS hB hE (S1c xs26 S1n) 0 rfl rfl) rfl rfl hl.1 rfl (lv_room (Nat.le_of_ble_eq_true rfl)) (zat zrX7_takeYes_0_ok 15 rfl) ⟨(Nat.le_of_ble_eq_true rfl), (Nat.le_of_ble_eq_true rfl)⟩)) (fun r28 _ H locs hw hP hD _ hS => ?_)
    obtain ⟨hw, br28⟩ := hw
    obtain rfl := hw.symm
    obtain ⟨hP, hD⟩ := pd_mk (bX7 a0 ur kr r_r []) hP hD
    have J39 : ∀ (v39_t1 : Int32) (H : Heap) (locs : List Loc) (ls : Array Slot), f_X7_takeYes_J39 r_r v39_t1 = some out → 0 ≤ v39_t1.toInt ∧ v39_t1.toInt ≤ 1 → va_P (dC, dI) vwCl (bX7 a0 ur kr r_r []) H → va_D A (bX7 a0 ur kr r_r []) → va_S A s.heap H locs → lv_has ls 1 [(0, .ref a0)] → W p l e (headSpec vfX7_takeYes { frames := 5, cells := 0, slots := 0, locals := 107 }).room s m ([.ref a0]).toArray below meth c H locs 0 0 QQ (F0 m 39 ls [.int v39_t1, .ref a0]) := by
      intro v39_t1 H locs ls h zb_v39_t1 hP hD hS hl
      rw [f_X7_takeYes_J39] at h
      refine va_put (D := (dC, dI)) (ci := 5) (v := .int v39_t1) (ty := .int) (C := RX7) (T := TX7) (N := 12) hx hb hts ifX7_takeYes_X7 tyX7 tyX7_ok nmX7 hown hK hP hD hS 0 rfl rfl 6 (by decide) (hts (.fieldLink RX7 31 "HookPier$Reader" "value" "I") (List.mem_of_getElem? (i := 5) rfl)) (fun _ h9 => h9) rfl (by decide +kernel) rfl rfl (Nat.le_of_ble_eq_true rfl) (zat zrX7_takeYes_0_ok 20 rfl) (fun H locs hP hD hS => ?_)
      obtain ⟨hP, hD⟩ := pd_mk (bX7 a0 ur kr (r_r.1, r_r.2.1, r_r.2.2.1, r_r.2.2.2.1, r_r.2.2.2.2.1, r_r.2.2.2.2.2.1, v39_t1, r_r.2.2.2.2.2.2.2) []) hP hD
      refine lv_aload_n hx hb (zat zrX7_takeYes_0_ok 21 rfl) rfl (lv_at hl 0 rfl) ?_
      obtain ⟨o43, eo43, h⟩ := bd_of h
      refine ck_v (wc := (bX7 a0 ur kr (r_r.1, r_r.2.1, r_r.2.2.1, r_r.2.2.2.1, r_r.2.2.2.2.1, r_r.2.2.2.2.2.1, v39_t1, r_r.2.2.2.2.2.2.2) [])) (wr := []) hP hD hK hS hA [0, 1, 2, 3] [] rfl rfl (by decide) (by decide) (by decide) (fun hPc hDc => (va_runV (As := []) (rest := []) ⟨hx, hb, hml, hown, hts⟩ (kfX7_advance l dC dI a0 ur kr (r_r.1, r_r.2.1, r_r.2.2.1, r_r.2.2.2.1, r_r.2.2.2.2.1, r_r.2.2.2.2.2.1, v39_t1, r_r.2.2.2.2.2.2.2) H.size o43 eo43) (cwV 0 hts gfX7_takeYes_1 rfl rfl rfl (by decide +kernel) ⟨(Nat.le_of_ble_eq_true rfl), (Nat.le_of_ble_eq_true rfl)⟩) (PV hPc (hK.sub (tys' := (tX7 kr ([]))) [0, 1, 2] rfl) hDc hN 0 rfl rfl) rfl rfl hl.1 rfl (lv_room (Nat.le_of_ble_eq_true rfl)) (zat zrX7_takeYes_0_ok 22 rfl) ⟨(Nat.le_of_ble_eq_true rfl), (Nat.le_of_ble_eq_true rfl)⟩)) (fun _ H locs hw hP hD _ hS => ?_)
      obtain ⟨hP, hD⟩ := pd_mk (bX7 a0 ur kr o43 []) hP hD
      refine lv_iconst (v := 1) hx hb (zat zrX7_takeYes_0_ok 23 rfl) (by decide) ?_
      obtain rfl := Option.some.inj h
      obtain ⟨hP9, hD9⟩ := pd_sub (bX7 a0 ur kr o43 []) [0, 1, 2, 3] hP hD (by decide) rfl
      have hK9 := hK.sub (tys' := []) [] rfl
      rw [hQQ]
      exact W.zret (v := (1 : Int32)) hx hb hr rfl (fun t ht hW => ⟨⟨(1 : Int32), (), rfl, ⟨rfl, (by decide)⟩, by rw [ht]; exact hP9, va_K.moved hW.alike hK9, hD9⟩, hS.F ht⟩) hS.2.2 (zat zrX7_takeYes_0_ok 24 rfl)
    refine lv_if_eq (tgt := 38) hx hb (zat zrX7_takeYes_0_ok 16 rfl) (by decide) (fun c31 => ?_) (fun c31 => ?_)
    · have h := (if_pos c31).symm.trans h
      refine lv_iconst (v := 0) hx hb (zat zrX7_takeYes_0_ok 19 rfl) (by decide) ?_
      exact J39 (0 : Int32) H _ ls h (by decide) hP hD hS (lv_sub hl [0] rfl)
    · have h := (if_neg c31).symm.trans h
      refine lv_iconst (v := 1) hx hb (zat zrX7_takeYes_0_ok 17 rfl) (by decide) ?_
      refine lv_goto (tgt := 39) hx hb (zat zrX7_takeYes_0_ok 18 rfl) (by decide) ?_
      exact J39 (1 : Int32) H _ ls h (by decide) hP hD hS (lv_sub hl [0] rfl)
  refine lv_if_ne (tgt := 24) hx hb (zat zrX7_takeYes_0_ok 3 rfl) (by decide) (fun c6 => ?_) (fun c6 => ?_)
  · have h := (if_neg c6).symm.trans h
    exact J24  H _ ls h  hP hD hS (lv_sub hl [0] rfl)
  · have h := (if_pos c6).symm.trans h
    refine lv_aload_n hx hb (zat zrX7_takeYes_0_ok 4 rfl) rfl (lv_at hl 0 rfl) ?_
    obtain ⟨s10, hs10, xs10⟩ := hE.1 (RX7, 218, "no", tx_no) (List.mem_of_getElem? (i := 22) rfl)
    refine va_ldcS hx hb hown hs10 (zat zrX7_takeYes_0_ok 5 rfl) ?_
    obtain ⟨o12, eo12, h⟩ := bd_of h
    refine ck_i (wc := (bX7 a0 ur kr r_r [])) (wr := []) hP hD hK hS hA [0, 1, 2, 3] [] rfl rfl (by decide) (by decide) (by decide) (fun hPc hDc => (va_runV (As := [.ref s10]) (rest := []) ⟨hx, hb, hml, hown, hts⟩ (kfX7_isWord l dC dI a0 s10 tx_no ur kr r_r H.size B o12 eo12) (cwV 1 hts gfX7_takeYes_0 rfl rfl rfl (by decide +kernel) ⟨(Nat.le_of_ble_eq_true rfl), (Nat.le_of_ble_eq_true rfl)⟩) (PVF hPc (hK.sub (tys' := (tX7 kr ([]))) [0, 1, 2] rfl) hDc hN hS hB hE (S1c xs10 S1n) 0 rfl rfl) rfl rfl hl.1 rfl (lv_room (Nat.le_of_ble_eq_true rfl)) (zat zrX7_takeYes_0_ok 6 rfl) ⟨(Nat.le_of_ble_eq_true rfl), (Nat.le_of_ble_eq_true rfl)⟩)) (fun r12 _ H locs hw hP hD _ hS => ?_)
    obtain ⟨hw, br12⟩ := hw
    obtain rfl := hw.symm
    obtain ⟨hP, hD⟩ := pd_mk (bX7 a0 ur kr r_r []) hP hD
    refine lv_if_ne (tgt := 24) hx hb (zat zrX7_takeYes_0_ok 7 rfl) (by decide) (fun c15 => ?_) (fun c15 => ?_)
    · have h := (if_neg c15).symm.trans h
      exact J24  H _ ls h  hP hD hS (lv_sub hl [0] rfl)
    · have h := (if_pos c15).symm.trans h
      refine lv_aload_n hx hb (zat zrX7_takeYes_0_ok 8 rfl) rfl (lv_at hl 0 rfl) ?_
      refine lv_iconst (v := 1) hx hb (zat zrX7_takeYes_0_ok 9 rfl) (by decide) ?_
      obtain ⟨o20, eo20⟩ : ∃ o, o = f_X7_fail (1 : Int32) r_r := ⟨_, rfl⟩
      have h := nm_of h o20 eo20
      refine ck_i (wc := (bX7 a0 ur kr r_r [])) (wr := []) hP hD hK hS hA [0, 1, 2, 3] [] rfl rfl (by decide) (by decide) (by decide) (fun hPc hDc => (va_runV (As := [.int 1]) (rest := []) ⟨hx, hb, hml, hown, hts⟩ (kfX7_fail l dC dI a0 (1 : Int32) ur kr r_r H.size o20 eo20.symm) (cwV 1 hts gfX7_takeYes_2 rfl rfl rfl (by decide +kernel) ⟨(Nat.le_of_ble_eq_true rfl), (Nat.le_of_ble_eq_true rfl)⟩) (PV hPc (hK.sub (tys' := (tX7 kr ([]))) [0, 1, 2] rfl) hDc hN 0 rfl rfl) rfl rfl hl.1 rfl (lv_room (Nat.le_of_ble_eq_true rfl)) (zat zrX7_takeYes_0_ok 10 rfl) ⟨(Nat.le_of_ble_eq_true rfl), (Nat.le_of_ble_eq_true rfl)⟩)) (fun r20 _ H locs hw hP hD _ hS => ?_)
      obtain ⟨hw, br20⟩ := hw
      obtain rfl := hw
      obtain ⟨hP, hD⟩ := pd_mk (bX7 a0 ur kr o20 []) hP hD
      obtain rfl := Option.some.inj h
      obtain ⟨hP9, hD9⟩ := pd_sub (bX7 a0 ur kr o20 []) [0, 1, 2, 3] hP hD (by decide) rfl
      have hK9 := hK.sub (tys' := []) [] rfl
      rw [hQQ]
      exact W.zret (v := (0 : Int32)) hx hb hr rfl (fun t ht hW => ⟨⟨(0 : Int32), (), rfl, ⟨rfl, (by decide)⟩, by rw [ht]; exact hP9, va_K.moved hW.alike hK9, hD9⟩, hS.F ht⟩) hS.2.2 (zat zrX7_takeYes_0_ok 11 rfl)
noncomputable def zrX7_takeNewName_0 : List ZR := zc 0 true (.aload_n 0) 1 (zc 1 true (.invokevirtual 220) 3 (zc 4 true (.ifCond .ne 9) 3 (zc 7 true (.aload_n 0) 1 (zc 8 true (.iconst 1) 1 (zc 9 true (.invokevirtual 72) 3 (zc 12 true (.ireturn) 1 (zc 13 true (.aload_n 0) 1 (zc 14 true (.invokevirtual 223) 3 (zc 17 true (.lstore_n 2) 1 (zc 18 true (.aload_n 0) 1 (zc 19 true (.lload_n 2) 1 (zc 20 true (.invokevirtual 227) 3 (zc 23 true (.iconst (-1)) 1 (zc 24 true (.if_icmp .ne 15) 3 (zc 27 true (.aload_n 0) 1 (zc 28 true (.getfield 42) 3 (zc 31 true (.aload_n 0) 1 (zc 32 true (.getfield 34) 3 (zc 35 true (.arraylength) 1 (zc 36 true (.if_icmp .lt 9) 3 (zc 39 true (.aload_n 0) 1 (zc 40 true (.iconst 3) 1 (zc 41 true (.invokevirtual 72) 3 (zc 44 true (.ireturn) 1 (zc 45 true (.aload_n 0) 1 (zc 46 true (.getfield 34) 3 (zc 49 true (.aload_n 0) 1 (zc 50 true (.getfield 42) 3 (zc 53 true (.lload_n 2) 1 (zc 54 true (.lastore) 1 (zc 55 true (.aload_n 0) 1 (zc 56 true (.getfield 38) 3 (zc 59 true (.aload_n 0) 1 (zc 60 true (.getfield 42) 3 (zc 63 true (.iload_n 1) 1 (zc 64 true (.iastore) 1 (zc 65 true (.aload_n 0) 1 (zc 66 true (.dup) 1 (zc 67 true (.getfield 42) 3 (zc 70 true (.iconst 1) 1 (zc 71 true (.iadd) 1 (zc 72 true (.putfield 42) 3 (zc 75 true (.aload_n 0) 1 (zc 76 true (.invokevirtual 62) 3 (zc 79 true (.iconst 1) 1 (zc 80 true (.ireturn) 1 ([])))))))))))))))))))))))))))))))))))))))))))))))
theorem zrX7_takeNewName_0_ok : zck 0 ((zby cX7_takeNewName).drop 0) zrX7_takeNewName_0 = true := by decide +kernel
def vfX7_takeNewName : List Cond := List.cons (.code yX7_takeNewName cX7_takeNewName 4 (some .boolean)) (apW [.methodLink RX7 220 yX7_isName, .instanceMethod yX7_isName, .selects RX7 yX7_isName yX7_isName, .initialized RX7, .methodLink RX7 223 yX7_wordCode, .instanceMethod yX7_wordCode, .selects RX7 yX7_wordCode yX7_wordCode, .methodLink RX7 227 yX7_nameOf, .instanceMethod yX7_nameOf, .selects RX7 yX7_nameOf yX7_nameOf, .methodLink RX7 72 yX7_fail, .instanceMethod yX7_fail, .selects RX7 yX7_fail yX7_fail, .fieldLink RX7 42 "HookPier$Reader" "names" "I", .fieldLink RX7 34 "HookPier$Reader" "name" "[J", .fieldLink RX7 38 "HookPier$Reader" "nameBait" "[I", .methodLink RX7 62 yX7_advance, .instanceMethod yX7_advance, .selects RX7 yX7_advance yX7_advance] (apW wsX70 (apW vfX7_isName (apW vfX7_wordCode (apW vfX7_nameOf (apW vfX7_fail (vfX7_advance)))))))
theorem ifX7_takeNewName_X7 : ∀ w ∈ wsX70, w ∈ vfX7_takeNewName := fun _ h => (List.mem_cons_of_mem _ (List.mem_append_right _ (List.mem_append_left _ h)))
theorem qfX7_takeNewName : Good vfX7_takeNewName := gd_cons (by decide +kernel) (gd_app (gd_dec (by decide +kernel) : Good [.methodLink RX7 220 yX7_isName, .instanceMethod yX7_isName, .selects RX7 yX7_isName yX7_isName, .initialized RX7, .methodLink RX7 223 yX7_wordCode, .instanceMethod yX7_wordCode, .selects RX7 yX7_wordCode yX7_wordCode, .methodLink RX7 227 yX7_nameOf, .instanceMethod yX7_nameOf, .selects RX7 yX7_nameOf yX7_nameOf, .methodLink RX7 72 yX7_fail, .instanceMethod yX7_fail, .selects RX7 yX7_fail yX7_fail, .fieldLink RX7 42 "HookPier$Reader" "names" "I", .fieldLink RX7 34 "HookPier$Reader" "name" "[J", .fieldLink RX7 38 "HookPier$Reader" "nameBait" "[I", .methodLink RX7 62 yX7_advance, .instanceMethod yX7_advance, .selects RX7 yX7_advance yX7_advance]) (gd_app qsX7 (gd_app qfX7_isName (gd_app qfX7_wordCode (gd_app qfX7_nameOf (gd_app qfX7_fail qfX7_advance))))))
theorem gfX7_takeNewName_0 : GoodIn vfX7_takeNewName (wsV RX7 220 RX7 yX7_isName vfX7_isName) := goodIn_app (goodIn_r [.methodLink RX7 220 yX7_isName, .instanceMethod yX7_isName, .selects RX7 yX7_isName yX7_isName, .initialized RX7] [1, 2, 3, 4] rfl (by decide +kernel)) (goodIn_m (fun _ h => (List.mem_cons_of_mem _ (List.mem_append_right _ (List.mem_append_right _ (List.mem_append_left _ h))))) qfX7_isName)
theorem gfX7_takeNewName_1 : GoodIn vfX7_takeNewName (wsV RX7 223 RX7 yX7_wordCode vfX7_wordCode) := goodIn_app (goodIn_r [.methodLink RX7 223 yX7_wordCode, .instanceMethod yX7_wordCode, .selects RX7 yX7_wordCode yX7_wordCode, .initialized RX7] [5, 6, 7, 4] rfl (by decide +kernel)) (goodIn_m (fun _ h => (List.mem_cons_of_mem _ (List.mem_append_right _ (List.mem_append_right _ (List.mem_append_right _ (List.mem_append_left _ h)))))) qfX7_wordCode)
theorem gfX7_takeNewName_2 : GoodIn vfX7_takeNewName (wsV RX7 227 RX7 yX7_nameOf vfX7_nameOf) := goodIn_app (goodIn_r [.methodLink RX7 227 yX7_nameOf, .instanceMethod yX7_nameOf, .selects RX7 yX7_nameOf yX7_nameOf, .initialized RX7] [8, 9, 10, 4] rfl (by decide +kernel)) (goodIn_m (fun _ h => (List.mem_cons_of_mem _ (List.mem_append_right _ (List.mem_append_right _ (List.mem_append_right _ (List.mem_append_right _ (List.mem_append_left _ h))))))) qfX7_nameOf)
theorem gfX7_takeNewName_3 : GoodIn vfX7_takeNewName (wsV RX7 72 RX7 yX7_fail vfX7_fail) := goodIn_app (goodIn_r [.methodLink RX7 72 yX7_fail, .instanceMethod yX7_fail, .selects RX7 yX7_fail yX7_fail, .initialized RX7] [11, 12, 13, 4] rfl (by decide +kernel)) (goodIn_m (fun _ h => (List.mem_cons_of_mem _ (List.mem_append_right _ (List.mem_append_right _ (List.mem_append_right _ (List.mem_append_right _ (List.mem_append_right _ (List.mem_append_left _ h)))))))) qfX7_fail)
theorem gfX7_takeNewName_4 : GoodIn vfX7_takeNewName (wsV RX7 62 RX7 yX7_advance vfX7_advance) := goodIn_app (goodIn_r [.methodLink RX7 62 yX7_advance, .instanceMethod yX7_advance, .selects RX7 yX7_advance yX7_advance, .initialized RX7] [17, 18, 19, 4] rfl (by decide +kernel)) (goodIn_m (fun _ h => (List.mem_cons_of_mem _ (List.mem_append_right _ (List.mem_append_right _ (List.mem_append_right _ (List.mem_append_right _ (List.mem_append_right _ (List.mem_append_right _ h)))))))) qfX7_advance)
set_option maxHeartbeats 2000000 in
set_option maxRecDepth 100000 in
theorem kfX7_takeNewName (l : Launch) (dC : Nat → ClassId) (dI : Nat → Nat → Nat) (a0 : Nat) (k1 : Int32) (ur : Nat → Nat) (kr : Nat → ClassId) (r_r : TX7_r) (sz : Nat) (B : Nat) (out : (Int32 × TX7_r)) (h : f_X7_takeNewName k1 r_r = some out) : Met l yX7_takeNewName vfX7_takeNewName ({ frames := 6, cells := 0, slots := 0, locals := 127 }) (PF (dC, dI) B [.ref a0, .int k1] sz (bX7 a0 ur kr r_r []) (tX7 kr ([])) []) (va_Qi (S := Unit) (fun (r : Int32) _ => r = out.1 ∧ (0 ≤ r.toInt ∧ r.toInt ≤ 1)) (fun _ t => BC (dC, dI) (va_A (bX7 a0 ur kr r_r []) sz) (bX7 a0 ur kr out.2 []) [] t) (va_A (bX7 a0 ur kr r_r []) sz)) 0 0 (va_A (bX7 a0 ur kr r_r []) sz) := by
  refine Met.ofW (cc := cX7_takeNewName) (maxL := 4) (ret := (some .boolean)) (by decide) rfl ?_
  intro p e s m args below meth c s₁ B0 hml hv
  obtain ⟨rfl, hsz, hP, hK, hD0, hN, hBs, hE, hX⟩ := hv
  have hBA := PF_reg hD0 hBs
  have hx := B0.exec
  have hb := B0.bytes
  have hr := B0.returns
  have hts := atoms_spec (ws := vfX7_takeNewName) B0.pre
  have hown : s.vm.findClass RX7 = some m.cls := findClass_of_methodNamed B0.named
  have hlocks := B0.notSynchronized
  subst hsz
  have hD := hD0.self (sz := s.heap.size)
  generalize hAe : va_A (bX7 a0 ur kr r_r []) s.heap.size = A at hD hBA ⊢
  have hA : ∀ q : Nat, s.heap.size ≤ q → A q := fun q h => by rw [← hAe]; exact Or.inr h
  have hS : va_S A s.heap s.heap [] := va_S.rf
  have hP : va_P (dC, dI) vwCl (bX7 a0 ur kr r_r []) s.heap := hP
  have hl := lv_entry ([.ref a0, .int k1]) (n := 4) (Nat.le_of_ble_eq_true rfl)
  rw [lg_entry_eq]
  generalize (lg_sl ([.ref a0, .int k1]) ++ List.replicate (4 - (lg_sl ([.ref a0, .int k1])).length) Slot.unset).toArray = ls at hl ⊢
  have hl : lv_has ls 4 [(0, .ref a0), (1, .int k1)] := hl
  have hB : RB B s A := ⟨hBA, hBs⟩
  refine W_q (fun QQ hQQ => ?_)
  rw [f_X7_takeNewName] at h
  refine lv_aload_n hx hb (zat zrX7_takeNewName_0_ok 0 rfl) rfl (lv_at hl 0 rfl) ?_
  obtain ⟨o1, eo1, h⟩ := bd_of h
  refine ck_i (wc := (bX7 a0 ur kr r_r [])) (wr := []) hP hD hK hS hA [0, 1, 2, 3] [] rfl rfl (by decide) (by decide) (by decide) (fun hPc hDc => (va_runV (As := []) (rest := []) ⟨hx, hb, hml, hown, hts⟩ (kfX7_isName l dC dI a0 ur kr r_r s.heap.size B o1 eo1) (cwV 0 hts gfX7_takeNewName_0 rfl rfl rfl (by decide +kernel) ⟨(Nat.le_of_ble_eq_true rfl), (Nat.le_of_ble_eq_true rfl)⟩) (PVF hPc (hK.sub (tys' := (tX7 kr ([]))) [0, 1, 2] rfl) hDc hN hS hB hE S1n 0 rfl rfl) rfl rfl hl.1 rfl (lv_room (Nat.le_of_ble_eq_true rfl)) (zat zrX7_takeNewName_0_ok 1 rfl) ⟨(Nat.le_of_ble_eq_true rfl), (Nat.le_of_ble_eq_true rfl)⟩)) (fun r1 _ H locs hw hP hD _ hS => ?_)
  obtain ⟨hw, br1⟩ := hw
  obtain rfl := hw.symm
  obtain ⟨hP, hD⟩ := pd_mk (bX7 a0 ur kr r_r []) hP hD
  refine lv_if_ne (tgt := 13) hx hb (zat zrX7_takeNewName_0_ok 2 rfl) (by decide) (fun c4 => ?_) (fun c4 => ?_)
  · have h := (if_neg c4).symm.trans h
    refine lv_aload_n hx hb (zat zrX7_takeNewName_0_ok 7 rfl) rfl (lv_at hl 0 rfl) ?_
    obtain ⟨o14, eo14, h⟩ := bd_of h
    refine ck_l (wc := (bX7 a0 ur kr r_r [])) (wr := []) hP hD hK hS hA [0, 1, 2, 3] [] rfl rfl (by decide) (by decide) (by decide) (fun hPc hDc => (va_runV (As := []) (rest := []) ⟨hx, hb, hml, hown, hts⟩ (kfX7_wordCode l dC dI a0 ur kr r_r H.size o14 eo14) (cwV 0 hts gfX7_takeNewName_1 rfl rfl rfl (by decide +kernel) ⟨(Nat.le_of_ble_eq_true rfl), (Nat.le_of_ble_eq_true rfl)⟩) (PV hPc (hK.sub (tys' := (tX7 kr ([]))) [0, 1, 2] rfl) hDc hN 0 rfl rfl) rfl rfl hl.1 rfl (lv_room (Nat.le_of_ble_eq_true rfl)) (zat zrX7_takeNewName_0_ok 8 rfl) ⟨(Nat.le_of_ble_eq_true rfl), (Nat.le_of_ble_eq_true rfl)⟩)) (fun r14 _ H locs hw hP hD _ hS => ?_)
    obtain rfl := hw.symm
    obtain ⟨hP, hD⟩ := pd_mk (bX7 a0 ur kr r_r []) hP hD
    refine lv_lstore_n (lv' := [(2, .long o14), (0, .ref a0), (1, .int k1)]) hx hb (zat zrX7_takeNewName_0_ok 9 rfl) rfl hl (by decide) rfl (fun ls hl => ?_)
    refine lv_aload_n hx hb (zat zrX7_takeNewName_0_ok 10 rfl) rfl (lv_at hl 1 rfl) ?_
    refine lv_lload_n hx hb (zat zrX7_takeNewName_0_ok 11 rfl) rfl (lv_at hl 0 rfl) ?_
    obtain ⟨o20, eo20, h⟩ := bd_of h
    refine ck_i (wc := (bX7 a0 ur kr r_r [])) (wr := []) hP hD hK hS hA [0, 1, 2, 3] [] rfl rfl (by decide) (by decide) (by decide) (fun hPc hDc => (va_runV (As := [.long o14]) (rest := []) ⟨hx, hb, hml, hown, hts⟩ (kfX7_nameOf l dC dI a0 o14 ur kr r_r H.size o20 eo20) (cwV 1 hts gfX7_takeNewName_2 rfl rfl rfl (by decide +kernel) ⟨(Nat.le_of_ble_eq_true rfl), (Nat.le_of_ble_eq_true rfl)⟩) (PV hPc (hK.sub (tys' := (tX7 kr ([]))) [0, 1, 2] rfl) hDc hN 0 rfl rfl) rfl rfl hl.1 rfl (lv_room (Nat.le_of_ble_eq_true rfl)) (zat zrX7_takeNewName_0_ok 12 rfl) ⟨(Nat.le_of_ble_eq_true rfl), (Nat.le_of_ble_eq_true rfl)⟩)) (fun r20 _ H locs hw hP hD _ hS => ?_)
    obtain rfl := hw.symm
    obtain ⟨hP, hD⟩ := pd_mk (bX7 a0 ur kr r_r []) hP hD
    refine lv_iconst (v := (-1)) hx hb (zat zrX7_takeNewName_0_ok 13 rfl) (by decide) ?_
    have J39 : ∀ (H : Heap) (locs : List Loc) (ls : Array Slot), f_X7_takeNewName_J39 r_r = some out → va_P (dC, dI) vwCl (bX7 a0 ur kr r_r []) H → va_D A (bX7 a0 ur kr r_r []) → va_S A s.heap H locs → lv_has ls 4 [(0, .ref a0)] → W p l e (headSpec vfX7_takeNewName { frames := 6, cells := 0, slots := 0, locals := 127 }).room s m ([.ref a0, .int k1]).toArray below meth c H locs 0 0 QQ (F0 m 39 ls []) := by
      intro  H locs ls h  hP hD hS hl
      rw [f_X7_takeNewName_J39] at h
      refine lv_aload_n hx hb (zat zrX7_takeNewName_0_ok 21 rfl) rfl (lv_at hl 0 rfl) ?_
      refine lv_iconst (v := 3) hx hb (zat zrX7_takeNewName_0_ok 22 rfl) (by decide) ?_
      obtain ⟨o41, eo41⟩ : ∃ o, o = f_X7_fail (3 : Int32) r_r := ⟨_, rfl⟩
      have h := nm_of h o41 eo41
      refine ck_i (wc := (bX7 a0 ur kr r_r [])) (wr := []) hP hD hK hS hA [0, 1, 2, 3] [] rfl rfl (by decide) (by decide) (by decide) (fun hPc hDc => (va_runV (As := [.int 3]) (rest := []) ⟨hx, hb, hml, hown, hts⟩ (kfX7_fail l dC dI a0 (3 : Int32) ur kr r_r H.size o41 eo41.symm) (cwV 1 hts gfX7_takeNewName_3 rfl rfl rfl (by decide +kernel) ⟨(Nat.le_of_ble_eq_true rfl), (Nat.le_of_ble_eq_true rfl)⟩) (PV hPc (hK.sub (tys' := (tX7 kr ([]))) [0, 1, 2] rfl) hDc hN 0 rfl rfl) rfl rfl hl.1 rfl (lv_room (Nat.le_of_ble_eq_true rfl)) (zat zrX7_takeNewName_0_ok 23 rfl) ⟨(Nat.le_of_ble_eq_true rfl), (Nat.le_of_ble_eq_true rfl)⟩)) (fun r41 _ H locs hw hP hD _ hS => ?_)
      obtain ⟨hw, br41⟩ := hw
      obtain rfl := hw
      obtain ⟨hP, hD⟩ := pd_mk (bX7 a0 ur kr o41 []) hP hD
      obtain rfl := Option.some.inj h
      obtain ⟨hP9, hD9⟩ := pd_sub (bX7 a0 ur kr o41 []) [0, 1, 2, 3] hP hD (by decide) rfl
      have hK9 := hK.sub (tys' := []) [] rfl
      rw [hQQ]
      exact W.zret (v := (0 : Int32)) hx hb hr rfl (fun t ht hW => ⟨⟨(0 : Int32), (), rfl, ⟨rfl, (by decide)⟩, by rw [ht]; exact hP9, va_K.moved hW.alike hK9, hD9⟩, hS.F ht⟩) hS.2.2 (zat zrX7_takeNewName_0_ok 24 rfl)
    refine lv_icmp_ne (tgt := 39) hx hb (zat zrX7_takeNewName_0_ok 14 rfl) (by decide) (fun c24 => ?_) (fun c24 => ?_)
    · have h := (if_neg c24).symm.trans h
      exact J39  H _ ls h  hP hD hS (lv_sub hl [1] rfl)
    · have h := (if_pos c24).symm.trans h
      refine lv_aload_n hx hb (zat zrX7_takeNewName_0_ok 15 rfl) rfl (lv_at hl 1 rfl) ?_
      refine va_get (D := (dC, dI)) (ci := 5) (v := .int r_r.2.2.2.2.2.2.2.2.2.1) (C := RX7) (T := TX7) (N := 12) hx hb hts ifX7_takeNewName_X7 hown hK hP 0 rfl rfl 9 (by decide) (hts (.fieldLink RX7 42 "HookPier$Reader" "names" "I") (List.mem_of_getElem? (i := 14) rfl)) (fun _ h9 => h9) rfl (zat zrX7_takeNewName_0_ok 16 rfl) ?_
      refine lv_aload_n hx hb (zat zrX7_takeNewName_0_ok 17 rfl) rfl (lv_at hl 1 rfl) ?_
      refine va_get (D := (dC, dI)) (ci := 5) (v := .ref (ur 1)) (C := RX7) (T := TX7) (N := 12) hx hb hts ifX7_takeNewName_X7 hown hK hP 0 rfl rfl 7 (by decide) (hts (.fieldLink RX7 34 "HookPier$Reader" "name" "[J") (List.mem_of_getElem? (i := 15) rfl)) (fun _ h9 => h9) rfl (zat zrX7_takeNewName_0_ok 18 rfl) ?_
      refine va_alen (v := 15) hx hb hK hP 2 1 rfl rfl rfl (zat zrX7_takeNewName_0_ok 19 rfl) ?_
      refine lv_icmp_lt (tgt := 45) hx hb (zat zrX7_takeNewName_0_ok 20 rfl) (by decide) (fun c36 => ?_) (fun c36 => ?_)
      · have h := (if_pos c36).symm.trans h
        refine lv_aload_n hx hb (zat zrX7_takeNewName_0_ok 25 rfl) rfl (lv_at hl 1 rfl) ?_
        refine va_get (D := (dC, dI)) (ci := 5) (v := .ref (ur 1)) (C := RX7) (T := TX7) (N := 12) hx hb hts ifX7_takeNewName_X7 hown hK hP 0 rfl rfl 7 (by decide) (hts (.fieldLink RX7 34 "HookPier$Reader" "name" "[J") (List.mem_of_getElem? (i := 15) rfl)) (fun _ h9 => h9) rfl (zat zrX7_takeNewName_0_ok 26 rfl) ?_
        refine lv_aload_n hx hb (zat zrX7_takeNewName_0_ok 27 rfl) rfl (lv_at hl 1 rfl) ?_
        refine va_get (D := (dC, dI)) (ci := 5) (v := .int r_r.2.2.2.2.2.2.2.2.2.1) (C := RX7) (T := TX7) (N := 12) hx hb hts ifX7_takeNewName_X7 hown hK hP 0 rfl rfl 9 (by decide) (hts (.fieldLink RX7 42 "HookPier$Reader" "names" "I") (List.mem_of_getElem? (i := 14) rfl)) (fun _ h9 => h9) rfl (zat zrX7_takeNewName_0_ok 28 rfl) ?_
        refine lv_lload_n hx hb (zat zrX7_takeNewName_0_ok 29 rfl) rfl (lv_at hl 0 rfl) ?_
        obtain ⟨hg54, h⟩ := gA_of h
        refine va_last hx hb hK hP hD hS 2 1 rfl rfl hg54 (zat zrX7_takeNewName_0_ok 30 rfl) (fun H locs hP hD hS => ?_)
        obtain ⟨hP, hD⟩ := pd_mk (bX7 a0 ur kr (r_r.1, r_r.2.1, r_r.2.2.1, r_r.2.2.2.1, r_r.2.2.2.2.1, r_r.2.2.2.2.2.1, r_r.2.2.2.2.2.2.1, (vp_updL r_r.2.2.2.2.2.2.2.1 (r_r.2.2.2.2.2.2.2.2.2.1).toNatClampNeg o14), r_r.2.2.2.2.2.2.2.2) []) hP hD
        refine lv_aload_n hx hb (zat zrX7_takeNewName_0_ok 31 rfl) rfl (lv_at hl 1 rfl) ?_
        refine va_get (D := (dC, dI)) (ci := 5) (v := .ref (ur 2)) (C := RX7) (T := TX7) (N := 12) hx hb hts ifX7_takeNewName_X7 hown hK hP 0 rfl rfl 8 (by decide) (hts (.fieldLink RX7 38 "HookPier$Reader" "nameBait" "[I") (List.mem_of_getElem? (i := 16) rfl)) (fun _ h9 => h9) rfl (zat zrX7_takeNewName_0_ok 32 rfl) ?_
        refine lv_aload_n hx hb (zat zrX7_takeNewName_0_ok 33 rfl) rfl (lv_at hl 1 rfl) ?_
        refine va_get (D := (dC, dI)) (ci := 5) (v := .int r_r.2.2.2.2.2.2.2.2.2.1) (C := RX7) (T := TX7) (N := 12) hx hb hts ifX7_takeNewName_X7 hown hK hP 0 rfl rfl 9 (by decide) (hts (.fieldLink RX7 42 "HookPier$Reader" "names" "I") (List.mem_of_getElem? (i := 14) rfl)) (fun _ h9 => h9) rfl (zat zrX7_takeNewName_0_ok 34 rfl) ?_
        refine lv_iload_n hx hb (zat zrX7_takeNewName_0_ok 35 rfl) rfl (lv_at hl 2 rfl) ?_
        obtain ⟨hg64, h⟩ := gA_of h
        refine va_iast hx hb hK hP hD hS 3 2 rfl rfl hg64 (zat zrX7_takeNewName_0_ok 36 rfl) (fun H locs hP hD hS => ?_)
        obtain ⟨hP, hD⟩ := pd_mk (bX7 a0 ur kr (r_r.1, r_r.2.1, r_r.2.2.1, r_r.2.2.2.1, r_r.2.2.2.2.1, r_r.2.2.2.2.2.1, r_r.2.2.2.2.2.2.1, (vp_updL r_r.2.2.2.2.2.2.2.1 (r_r.2.2.2.2.2.2.2.2.2.1).toNatClampNeg o14), (upd r_r.2.2.2.2.2.2.2.2.1 (r_r.2.2.2.2.2.2.2.2.2.1).toNatClampNeg k1), r_r.2.2.2.2.2.2.2.2.2) []) hP hD
        refine lv_aload_n hx hb (zat zrX7_takeNewName_0_ok 37 rfl) rfl (lv_at hl 1 rfl) ?_
        refine lv_dup hx hb (zat zrX7_takeNewName_0_ok 38 rfl) rfl ?_
        refine va_get (D := (dC, dI)) (ci := 5) (v := .int r_r.2.2.2.2.2.2.2.2.2.1) (C := RX7) (T := TX7) (N := 12) hx hb hts ifX7_takeNewName_X7 hown hK hP 0 rfl rfl 9 (by decide) (hts (.fieldLink RX7 42 "HookPier$Reader" "names" "I") (List.mem_of_getElem? (i := 14) rfl)) (fun _ h9 => h9) rfl (zat zrX7_takeNewName_0_ok 39 rfl) ?_
        refine lv_iconst (v := 1) hx hb (zat zrX7_takeNewName_0_ok 40 rfl) (by decide) ?_
        refine lv_iadd hx hb (zat zrX7_takeNewName_0_ok 41 rfl) ?_
        refine va_put (D := (dC, dI)) (ci := 5) (v := .int (r_r.2.2.2.2.2.2.2.2.2.1 + (1 : Int32))) (ty := .int) (C := RX7) (T := TX7) (N := 12) hx hb hts ifX7_takeNewName_X7 tyX7 tyX7_ok nmX7 hown hK hP hD hS 0 rfl rfl 9 (by decide) (hts (.fieldLink RX7 42 "HookPier$Reader" "names" "I") (List.mem_of_getElem? (i := 14) rfl)) (fun _ h9 => h9) rfl (by decide +kernel) rfl rfl (Nat.le_of_ble_eq_true rfl) (zat zrX7_takeNewName_0_ok 42 rfl) (fun H locs hP hD hS => ?_)
        obtain ⟨hP, hD⟩ := pd_mk (bX7 a0 ur kr (r_r.1, r_r.2.1, r_r.2.2.1, r_r.2.2.2.1, r_r.2.2.2.2.1, r_r.2.2.2.2.2.1, r_r.2.2.2.2.2.2.1, (vp_updL r_r.2.2.2.2.2.2.2.1 (r_r.2.2.2.2.2.2.2.2.2.1).toNatClampNeg o14), (upd r_r.2.2.2.2.2.2.2.2.1 (r_r.2.2.2.2.2.2.2.2.2.1).toNatClampNeg k1), (r_r.2.2.2.2.2.2.2.2.2.1 + (1 : Int32)), r_r.2.2.2.2.2.2.2.2.2.2) []) hP hD
        refine lv_aload_n hx hb (zat zrX7_takeNewName_0_ok 43 rfl) rfl (lv_at hl 1 rfl) ?_
        obtain ⟨o76, eo76, h⟩ := bd_of h
        refine ck_v (wc := (bX7 a0 ur kr (r_r.1, r_r.2.1, r_r.2.2.1, r_r.2.2.2.1, r_r.2.2.2.2.1, r_r.2.2.2.2.2.1, r_r.2.2.2.2.2.2.1, (vp_updL r_r.2.2.2.2.2.2.2.1 (r_r.2.2.2.2.2.2.2.2.2.1).toNatClampNeg o14), (upd r_r.2.2.2.2.2.2.2.2.1 (r_r.2.2.2.2.2.2.2.2.2.1).toNatClampNeg k1), (r_r.2.2.2.2.2.2.2.2.2.1 + (1 : Int32)), r_r.2.2.2.2.2.2.2.2.2.2) [])) (wr := []) hP hD hK hS hA [0, 1, 2, 3] [] rfl rfl (by decide) (by decide) (by decide) (fun hPc hDc => (va_runV (As := []) (rest := []) ⟨hx, hb, hml, hown, hts⟩ (kfX7_advance l dC dI a0 ur kr (r_r.1, r_r.2.1, r_r.2.2.1, r_r.2.2.2.1, r_r.2.2.2.2.1, r_r.2.2.2.2.2.1, r_r.2.2.2.2.2.2.1, (vp_updL r_r.2.2.2.2.2.2.2.1 (r_r.2.2.2.2.2.2.2.2.2.1).toNatClampNeg o14), (upd r_r.2.2.2.2.2.2.2.2.1 (r_r.2.2.2.2.2.2.2.2.2.1).toNatClampNeg k1), (r_r.2.2.2.2.2.2.2.2.2.1 + (1 : Int32)), r_r.2.2.2.2.2.2.2.2.2.2) H.size o76 eo76) (cwV 0 hts gfX7_takeNewName_4 rfl rfl rfl (by decide +kernel) ⟨(Nat.le_of_ble_eq_true rfl), (Nat.le_of_ble_eq_true rfl)⟩) (PV hPc (hK.sub (tys' := (tX7 kr ([]))) [0, 1, 2] rfl) hDc hN 0 rfl rfl) rfl rfl hl.1 rfl (lv_room (Nat.le_of_ble_eq_true rfl)) (zat zrX7_takeNewName_0_ok 44 rfl) ⟨(Nat.le_of_ble_eq_true rfl), (Nat.le_of_ble_eq_true rfl)⟩)) (fun _ H locs hw hP hD _ hS => ?_)
        obtain ⟨hP, hD⟩ := pd_mk (bX7 a0 ur kr o76 []) hP hD
        refine lv_iconst (v := 1) hx hb (zat zrX7_takeNewName_0_ok 45 rfl) (by decide) ?_
        obtain rfl := Option.some.inj h
        obtain ⟨hP9, hD9⟩ := pd_sub (bX7 a0 ur kr o76 []) [0, 1, 2, 3] hP hD (by decide) rfl
        have hK9 := hK.sub (tys' := []) [] rfl
        rw [hQQ]
        exact W.zret (v := (1 : Int32)) hx hb hr rfl (fun t ht hW => ⟨⟨(1 : Int32), (), rfl, ⟨rfl, (by decide)⟩, by rw [ht]; exact hP9, va_K.moved hW.alike hK9, hD9⟩, hS.F ht⟩) hS.2.2 (zat zrX7_takeNewName_0_ok 46 rfl)
      · have h := (if_neg c36).symm.trans h
        exact J39  H _ ls h  hP hD hS (lv_sub hl [1] rfl)
  · have h := (if_pos c4).symm.trans h
    refine lv_aload_n hx hb (zat zrX7_takeNewName_0_ok 3 rfl) rfl (lv_at hl 0 rfl) ?_
    refine lv_iconst (v := 1) hx hb (zat zrX7_takeNewName_0_ok 4 rfl) (by decide) ?_
    obtain ⟨o9, eo9⟩ : ∃ o, o = f_X7_fail (1 : Int32) r_r := ⟨_, rfl⟩
    have h := nm_of h o9 eo9
    refine ck_i (wc := (bX7 a0 ur kr r_r [])) (wr := []) hP hD hK hS hA [0, 1, 2, 3] [] rfl rfl (by decide) (by decide) (by decide) (fun hPc hDc => (va_runV (As := [.int 1]) (rest := []) ⟨hx, hb, hml, hown, hts⟩ (kfX7_fail l dC dI a0 (1 : Int32) ur kr r_r H.size o9 eo9.symm) (cwV 1 hts gfX7_takeNewName_3 rfl rfl rfl (by decide +kernel) ⟨(Nat.le_of_ble_eq_true rfl), (Nat.le_of_ble_eq_true rfl)⟩) (PV hPc (hK.sub (tys' := (tX7 kr ([]))) [0, 1, 2] rfl) hDc hN 0 rfl rfl) rfl rfl hl.1 rfl (lv_room (Nat.le_of_ble_eq_true rfl)) (zat zrX7_takeNewName_0_ok 5 rfl) ⟨(Nat.le_of_ble_eq_true rfl), (Nat.le_of_ble_eq_true rfl)⟩)) (fun r9 _ H locs hw hP hD _ hS => ?_)
    obtain ⟨hw, br9⟩ := hw
    obtain rfl := hw
    obtain ⟨hP, hD⟩ := pd_mk (bX7 a0 ur kr o9 []) hP hD
    obtain rfl := Option.some.inj h
    obtain ⟨hP9, hD9⟩ := pd_sub (bX7 a0 ur kr o9 []) [0, 1, 2, 3] hP hD (by decide) rfl
    have hK9 := hK.sub (tys' := []) [] rfl
    rw [hQQ]
    exact W.zret (v := (0 : Int32)) hx hb hr rfl (fun t ht hW => ⟨⟨(0 : Int32), (), rfl, ⟨rfl, (by decide)⟩, by rw [ht]; exact hP9, va_K.moved hW.alike hK9, hD9⟩, hS.F ht⟩) hS.2.2 (zat zrX7_takeNewName_0_ok 6 rfl)
