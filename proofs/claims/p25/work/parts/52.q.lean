noncomputable def zrX12_refusesSure_0 : List ZR := zc 0 true (.aload_n 0) 1 (zc 1 true (.iload_n 1) 1 (zc 2 true (.invokevirtual 320) 3 (zc 5 true (.ifCond .ne 7) 3 (zc 8 true (.iconst 1) 1 (zc 9 true (.goto 19) 3 (zc 12 true (.aload_n 0) 1 (zc 13 true (.getfield 17) 3 (zc 16 true (.iconst 0) 1 (zc 17 true (.iload_n 1) 1 (zc 18 true (.iadd) 1 (zc 19 true (.iaload) 1 (zc 20 true (.ifCond .ne 7) 3 (zc 23 true (.iconst 0) 1 (zc 24 true (.goto 4) 3 (zc 27 true (.iconst 5) 1 (zc 28 true (.ireturn) 1 ([])))))))))))))))))
theorem zrX12_refusesSure_0_ok : zck 0 ((zby cX12_refusesSure).drop 0) zrX12_refusesSure_0 = true := by decide +kernel
def vfX12_refusesSure : List Cond := List.cons (.code yX12_refusesSure cX12_refusesSure 2 (some .int)) (apW [.methodLink RX12 320 yX12_isAnswer, .instanceMethod yX12_isAnswer, .selects RX12 yX12_isAnswer yX12_isAnswer, .initialized RX12, .fieldLink RX12 17 "HookPierModel" "v" "[I"] (apW wsX120 (vfX12_isAnswer)))
theorem ifX12_refusesSure_X12 : ∀ w ∈ wsX120, w ∈ vfX12_refusesSure := fun _ h => (List.mem_cons_of_mem _ (List.mem_append_right _ (List.mem_append_left _ h)))
theorem qfX12_refusesSure : Good vfX12_refusesSure := gd_cons (by decide +kernel) (gd_app (gd_dec (by decide +kernel) : Good [.methodLink RX12 320 yX12_isAnswer, .instanceMethod yX12_isAnswer, .selects RX12 yX12_isAnswer yX12_isAnswer, .initialized RX12, .fieldLink RX12 17 "HookPierModel" "v" "[I"]) (gd_app qsX12 qfX12_isAnswer))
theorem gfX12_refusesSure_0 : GoodIn vfX12_refusesSure (wsV RX12 320 RX12 yX12_isAnswer vfX12_isAnswer) := goodIn_app (goodIn_r [.methodLink RX12 320 yX12_isAnswer, .instanceMethod yX12_isAnswer, .selects RX12 yX12_isAnswer yX12_isAnswer, .initialized RX12] [1, 2, 3, 4] rfl (by decide +kernel)) (goodIn_m (fun _ h => (List.mem_cons_of_mem _ (List.mem_append_right _ (List.mem_append_right _ h)))) qfX12_isAnswer)
set_option maxHeartbeats 2000000 in
set_option maxRecDepth 100000 in
theorem kfX12_refusesSure (l : Launch) (dC : Nat → ClassId) (dI : Nat → Nat → Nat) (a0 : Nat) (k1 : Int32) (a2 : Nat) (a3 : Nat) (uq : Nat → Nat) (kq : Nat → ClassId) (m_v : TX12_v) (g7 : Value) (g8 : Value) (g9 : Value) (g10 : Value) (g11 : Value) (g12 : Value) (g13 : Value) (g14 : Value) (g15 : Value) (g16 : Value) (g17 : Value) (g18 : Value) (g19 : Value) (g20 : Value) (g21 : Value) (g22 : Value) (g23 : Value) (g24 : Value) (g25 : Value) (g26 : Value) (g27 : Value) (g28 : Value) (g29 : Value) (g30 : Value) (g31 : Value) (g32 : Value) (g33 : Value) (g34 : Value) (q_q : TX11_q) (cB36 : ClassId) (sz : Nat) (out : Int32) (h : f_X12_refusesSure k1 m_v q_q = some out) : KDi l yX12_refusesSure vfX12_refusesSure ({ frames := 1, cells := 0, slots := 0, locals := 21 }) (dC, dI) [.ref a0, .int k1] sz ((a0, .inr (9, [g7, g8, g9, .ref a2, g10, g11, g12, g13, g14, g15, g16, g17, g18, g19, g20, .ref a3, g21, g22, g23, g24, g25, g26, g27, g28, g29, g30, g31, g32, g33, g34])) :: bX11 a2 uq kq q_q ([(a3, .inl (cB36, 26, .inl m_v))])) (tX11 kq ((cB36, .int) :: [])) (fun (r : Int32) _ => r = out) 0 0 := by
  refine Met.ofW (cc := cX12_refusesSure) (maxL := 2) (ret := (some .int)) (by decide) rfl ?_
  intro p e s m args below meth c s₁ B0 hml hv
  obtain ⟨rfl, hsz, hP, hK, hD0, hN⟩ := hv
  have hx := B0.exec
  have hb := B0.bytes
  have hr := B0.returns
  have hts := atoms_spec (ws := vfX12_refusesSure) B0.pre
  have hown : s.vm.findClass RX12 = some m.cls := findClass_of_methodNamed B0.named
  have hlocks := B0.notSynchronized
  subst hsz
  have hD := hD0.self (sz := s.heap.size)
  generalize hAe : va_A ((a0, .inr (9, [g7, g8, g9, .ref a2, g10, g11, g12, g13, g14, g15, g16, g17, g18, g19, g20, .ref a3, g21, g22, g23, g24, g25, g26, g27, g28, g29, g30, g31, g32, g33, g34])) :: bX11 a2 uq kq q_q ([(a3, .inl (cB36, 26, .inl m_v))])) s.heap.size = A at hD ⊢
  have hA : ∀ q : Nat, s.heap.size ≤ q → A q := fun q h => by rw [← hAe]; exact Or.inr h
  have hS : va_S A s.heap s.heap [] := va_S.rf
  have hP : va_P (dC, dI) vwCl ((a0, .inr (9, [g7, g8, g9, .ref a2, g10, g11, g12, g13, g14, g15, g16, g17, g18, g19, g20, .ref a3, g21, g22, g23, g24, g25, g26, g27, g28, g29, g30, g31, g32, g33, g34])) :: bX11 a2 uq kq q_q ([(a3, .inl (cB36, 26, .inl m_v))])) s.heap := hP
  have hl := lv_entry ([.ref a0, .int k1]) (n := 2) (Nat.le_of_ble_eq_true rfl)
  rw [lg_entry_eq]
  generalize (lg_sl ([.ref a0, .int k1]) ++ List.replicate (2 - (lg_sl ([.ref a0, .int k1])).length) Slot.unset).toArray = ls at hl ⊢
  have hl : lv_has ls 2 [(0, .ref a0), (1, .int k1)] := hl
  refine W_q (fun QQ hQQ => ?_)
  rw [f_X12_refusesSure] at h
  refine lv_aload_n hx hb (zat zrX12_refusesSure_0_ok 0 rfl) rfl (lv_at hl 0 rfl) ?_
  refine lv_iload_n hx hb (zat zrX12_refusesSure_0_ok 1 rfl) rfl (lv_at hl 1 rfl) ?_
  obtain ⟨o2, eo2⟩ : ∃ o, o = f_X12_isAnswer k1 q_q := ⟨_, rfl⟩
  have h := nm_of h o2 eo2
  refine ck_i (wc := ((a0, .inr (9, [g7, g8, g9, .ref a2, g10, g11, g12, g13, g14, g15, g16, g17, g18, g19, g20, .ref a3, g21, g22, g23, g24, g25, g26, g27, g28, g29, g30, g31, g32, g33, g34])) :: bX11 a2 uq kq q_q [])) (wr := ([(a3, .inl (cB36, 26, .inl m_v))])) hP hD hK hS hA [0, 1, 2, 3, 4, 5, 6, 7, 8, 9, 10, 11, 12, 13, 14, 15] [16] rfl rfl (by decide) (by decide) (by decide) (fun hPc hDc => (va_runV (As := [.int k1]) (rest := []) ⟨hx, hb, hml, hown, hts⟩ (kfX12_isAnswer l dC dI a0 k1 a2 uq kq (g7) (g8) (g9) (g10) (g11) (g12) (g13) (g14) (g15) (g16) (g17) (g18) (g19) (g20) (.ref a3) (g21) (g22) (g23) (g24) (g25) (g26) (g27) (g28) (g29) (g30) (g31) (g32) (g33) (g34) q_q s.heap.size o2 eo2.symm) (cwV 1 hts gfX12_refusesSure_0 rfl rfl rfl (by decide +kernel) ⟨(Nat.le_of_ble_eq_true rfl), (Nat.le_of_ble_eq_true rfl)⟩) (PV hPc (hK.sub (tys' := (tX11 kq ([]))) [0, 1, 2, 3, 4, 5, 6, 7, 8, 9, 10, 11, 12, 13] rfl) hDc hN 0 rfl rfl) rfl rfl hl.1 rfl (lv_room (Nat.le_of_ble_eq_true rfl)) (zat zrX12_refusesSure_0_ok 2 rfl) ⟨(Nat.le_of_ble_eq_true rfl), (Nat.le_of_ble_eq_true rfl)⟩)) (fun r2 _ H locs hw hP hD _ hS => ?_)
  obtain ⟨hw, br2⟩ := hw
  obtain rfl := hw.symm
  obtain ⟨hP, hD⟩ := pd_mk ((a3, .inl (cB36, 26, .inl m_v)) :: (a0, .inr (9, [g7, g8, g9, .ref a2, g10, g11, g12, g13, g14, g15, g16, g17, g18, g19, g20, .ref a3, g21, g22, g23, g24, g25, g26, g27, g28, g29, g30, g31, g32, g33, g34])) :: bX11 a2 uq kq q_q []) hP hD
  refine lv_if_ne (tgt := 12) hx hb (zat zrX12_refusesSure_0_ok 3 rfl) (by decide) (fun c5 => ?_) (fun c5 => ?_)
  · have h := (if_neg c5).symm.trans h
    refine lv_aload_n hx hb (zat zrX12_refusesSure_0_ok 6 rfl) rfl (lv_at hl 0 rfl) ?_
    refine va_get (D := (dC, dI)) (ci := 9) (v := .ref a3) (C := RX12) (T := TX12) (N := 30) hx hb hts ifX12_refusesSure_X12 hown hK hP 1 rfl rfl 15 (by decide) (hts (.fieldLink RX12 17 "HookPierModel" "v" "[I") (List.mem_of_getElem? (i := 5) rfl)) (fun _ h9 => h9) rfl (zat zrX12_refusesSure_0_ok 7 rfl) ?_
    refine lv_iconst (v := 0) hx hb (zat zrX12_refusesSure_0_ok 8 rfl) (by decide) ?_
    refine lv_iload_n hx hb (zat zrX12_refusesSure_0_ok 9 rfl) rfl (lv_at hl 1 rfl) ?_
    refine lv_iadd hx hb (zat zrX12_refusesSure_0_ok 10 rfl) ?_
    obtain ⟨hg19, h⟩ := gA_of h
    refine va_iald hx hb hK hP 0 14 rfl rfl hg19 (zat zrX12_refusesSure_0_ok 11 rfl) ?_
    refine lv_if_ne (tgt := 27) hx hb (zat zrX12_refusesSure_0_ok 12 rfl) (by decide) (fun c20 => ?_) (fun c20 => ?_)
    · have h := (if_neg c20).symm.trans h
      refine lv_iconst (v := 5) hx hb (zat zrX12_refusesSure_0_ok 15 rfl) (by decide) ?_
      obtain rfl := Option.some.inj h
      obtain ⟨hP9, hD9⟩ := pd_sub ((a0, .inr (9, [g7, g8, g9, .ref a2, g10, g11, g12, g13, g14, g15, g16, g17, g18, g19, g20, .ref a3, g21, g22, g23, g24, g25, g26, g27, g28, g29, g30, g31, g32, g33, g34])) :: bX11 a2 uq kq q_q ([(a3, .inl (cB36, 26, .inl m_v))])) [1, 2, 3, 4, 5, 6, 7, 8, 9, 10, 11, 12, 13, 14, 15, 16, 0] hP hD (by decide) rfl
      have hK9 := hK.sub (tys' := []) [] rfl
      rw [hQQ]
      exact W.iret (v := (5 : Int32)) hx hb hr (fun t ht hW => ⟨⟨(5 : Int32), (), rfl, rfl, by rw [ht]; exact hP9, va_K.moved hW.alike hK9, hD9⟩, hS.F ht⟩) hS.2.2 (zat zrX12_refusesSure_0_ok 16 rfl)
    · have h := (if_pos c20).symm.trans h
      refine lv_iconst (v := 0) hx hb (zat zrX12_refusesSure_0_ok 13 rfl) (by decide) ?_
      refine lv_goto (tgt := 28) hx hb (zat zrX12_refusesSure_0_ok 14 rfl) (by decide) ?_
      obtain rfl := Option.some.inj h
      obtain ⟨hP9, hD9⟩ := pd_sub ((a0, .inr (9, [g7, g8, g9, .ref a2, g10, g11, g12, g13, g14, g15, g16, g17, g18, g19, g20, .ref a3, g21, g22, g23, g24, g25, g26, g27, g28, g29, g30, g31, g32, g33, g34])) :: bX11 a2 uq kq q_q ([(a3, .inl (cB36, 26, .inl m_v))])) [1, 2, 3, 4, 5, 6, 7, 8, 9, 10, 11, 12, 13, 14, 15, 16, 0] hP hD (by decide) rfl
      have hK9 := hK.sub (tys' := []) [] rfl
      rw [hQQ]
      exact W.iret (v := (0 : Int32)) hx hb hr (fun t ht hW => ⟨⟨(0 : Int32), (), rfl, rfl, by rw [ht]; exact hP9, va_K.moved hW.alike hK9, hD9⟩, hS.F ht⟩) hS.2.2 (zat zrX12_refusesSure_0_ok 16 rfl)
  · have h := (if_pos c5).symm.trans h
    refine lv_iconst (v := 1) hx hb (zat zrX12_refusesSure_0_ok 4 rfl) (by decide) ?_
    refine lv_goto (tgt := 28) hx hb (zat zrX12_refusesSure_0_ok 5 rfl) (by decide) ?_
    obtain rfl := Option.some.inj h
    obtain ⟨hP9, hD9⟩ := pd_sub ((a0, .inr (9, [g7, g8, g9, .ref a2, g10, g11, g12, g13, g14, g15, g16, g17, g18, g19, g20, .ref a3, g21, g22, g23, g24, g25, g26, g27, g28, g29, g30, g31, g32, g33, g34])) :: bX11 a2 uq kq q_q ([(a3, .inl (cB36, 26, .inl m_v))])) [1, 2, 3, 4, 5, 6, 7, 8, 9, 10, 11, 12, 13, 14, 15, 16, 0] hP hD (by decide) rfl
    have hK9 := hK.sub (tys' := []) [] rfl
    rw [hQQ]
    exact W.iret (v := (1 : Int32)) hx hb hr (fun t ht hW => ⟨⟨(1 : Int32), (), rfl, rfl, by rw [ht]; exact hP9, va_K.moved hW.alike hK9, hD9⟩, hS.F ht⟩) hS.2.2 (zat zrX12_refusesSure_0_ok 16 rfl)
noncomputable def zrX11_questions_0 : List ZR := zc 0 true (.aload_n 0) 1 (zc 1 true (.getfield 87) 3 (zc 4 true (.aload_n 0) 1 (zc 5 true (.getfield 90) 3 (zc 8 true (.imul) 1 (zc 9 true (.aload_n 0) 1 (zc 10 true (.getfield 93) 3 (zc 13 true (.imul) 1 (zc 14 true (.ireturn) 1 ([])))))))))
theorem zrX11_questions_0_ok : zck 0 ((zby cX11_questions).drop 0) zrX11_questions_0 = true := by decide +kernel
def vfX11_questions : List Cond := List.cons (.code yX11_questions cX11_questions 1 (some .int)) (apW [.fieldLink RX11 87 "HookPierModel$Pier" "spots" "I", .fieldLink RX11 90 "HookPierModel$Pier" "deep" "I", .fieldLink RX11 93 "HookPierModel$Pier" "baits" "I"] (wsX110))
theorem ifX11_questions_X11 : ∀ w ∈ wsX110, w ∈ vfX11_questions := fun _ h => (List.mem_cons_of_mem _ (List.mem_append_right _ h))
theorem qfX11_questions : Good vfX11_questions := gd_cons (by decide +kernel) (gd_app (gd_dec (by decide +kernel) : Good [.fieldLink RX11 87 "HookPierModel$Pier" "spots" "I", .fieldLink RX11 90 "HookPierModel$Pier" "deep" "I", .fieldLink RX11 93 "HookPierModel$Pier" "baits" "I"]) qsX11)
set_option maxHeartbeats 2000000 in
set_option maxRecDepth 100000 in
theorem kfX11_questions (l : Launch) (dC : Nat → ClassId) (dI : Nat → Nat → Nat) (a0 : Nat) (uq : Nat → Nat) (kq : Nat → ClassId) (q_q : TX11_q) (sz : Nat) (out : Int32) (h : f_X11_questions q_q = out) : KDi l yX11_questions vfX11_questions ({ frames := 0, cells := 0, slots := 0, locals := 0 }) (dC, dI) [.ref a0] sz (bX11 a0 uq kq q_q []) (tX11 kq ([])) (fun (r : Int32) _ => r = out) 0 0 := by
  refine Met.ofW (cc := cX11_questions) (maxL := 1) (ret := (some .int)) (by decide) rfl ?_
  intro p e s m args below meth c s₁ B0 hml hv
  obtain ⟨rfl, hsz, hP, hK, hD0, hN⟩ := hv
  have hx := B0.exec
  have hb := B0.bytes
  have hr := B0.returns
  have hts := atoms_spec (ws := vfX11_questions) B0.pre
  have hown : s.vm.findClass RX11 = some m.cls := findClass_of_methodNamed B0.named
  have hlocks := B0.notSynchronized
  subst hsz
  have hD := hD0.self (sz := s.heap.size)
  generalize hAe : va_A (bX11 a0 uq kq q_q []) s.heap.size = A at hD ⊢
  have hA : ∀ q : Nat, s.heap.size ≤ q → A q := fun q h => by rw [← hAe]; exact Or.inr h
  have hS : va_S A s.heap s.heap [] := va_S.rf
  have hP : va_P (dC, dI) vwCl (bX11 a0 uq kq q_q []) s.heap := hP
  have hl := lv_entry ([.ref a0]) (n := 1) (Nat.le_of_ble_eq_true rfl)
  rw [lg_entry_eq]
  generalize (lg_sl ([.ref a0]) ++ List.replicate (1 - (lg_sl ([.ref a0])).length) Slot.unset).toArray = ls at hl ⊢
  have hl : lv_has ls 1 [(0, .ref a0)] := hl
  refine W_q (fun QQ hQQ => ?_)
  rw [f_X11_questions] at h
  refine lv_aload_n hx hb (zat zrX11_questions_0_ok 0 rfl) rfl (lv_at hl 0 rfl) ?_
  refine va_get (D := (dC, dI)) (ci := 8) (v := .int q_q.1) (C := RX11) (T := TX11) (N := 24) hx hb hts ifX11_questions_X11 hown hK hP 0 rfl rfl 0 (by decide) (hts (.fieldLink RX11 87 "HookPierModel$Pier" "spots" "I") (List.mem_of_getElem? (i := 1) rfl)) (fun _ h9 => h9) rfl (zat zrX11_questions_0_ok 1 rfl) ?_
  refine lv_aload_n hx hb (zat zrX11_questions_0_ok 2 rfl) rfl (lv_at hl 0 rfl) ?_
  refine va_get (D := (dC, dI)) (ci := 8) (v := .int q_q.2.1) (C := RX11) (T := TX11) (N := 24) hx hb hts ifX11_questions_X11 hown hK hP 0 rfl rfl 1 (by decide) (hts (.fieldLink RX11 90 "HookPierModel$Pier" "deep" "I") (List.mem_of_getElem? (i := 2) rfl)) (fun _ h9 => h9) rfl (zat zrX11_questions_0_ok 3 rfl) ?_
  refine lv_imul hx hb (zat zrX11_questions_0_ok 4 rfl) ?_
  refine lv_aload_n hx hb (zat zrX11_questions_0_ok 5 rfl) rfl (lv_at hl 0 rfl) ?_
  refine va_get (D := (dC, dI)) (ci := 8) (v := .int q_q.2.2.2.2.1) (C := RX11) (T := TX11) (N := 24) hx hb hts ifX11_questions_X11 hown hK hP 0 rfl rfl 4 (by decide) (hts (.fieldLink RX11 93 "HookPierModel$Pier" "baits" "I") (List.mem_of_getElem? (i := 3) rfl)) (fun _ h9 => h9) rfl (zat zrX11_questions_0_ok 6 rfl) ?_
  refine lv_imul hx hb (zat zrX11_questions_0_ok 7 rfl) ?_
  obtain rfl := h
  obtain ⟨hP9, hD9⟩ := pd_sub (bX11 a0 uq kq q_q []) [0, 1, 2, 3, 4, 5, 6, 7, 8, 9, 10, 11, 12, 13, 14] hP hD (by decide) rfl
  have hK9 := hK.sub (tys' := []) [] rfl
  rw [hQQ]
  exact W.iret (v := ((q_q.1 * q_q.2.1) * q_q.2.2.2.2.1)) hx hb hr (fun t ht hW => ⟨⟨((q_q.1 * q_q.2.1) * q_q.2.2.2.2.1), (), rfl, rfl, by rw [ht]; exact hP9, va_K.moved hW.alike hK9, hD9⟩, hS.F ht⟩) hS.2.2 (zat zrX11_questions_0_ok 8 rfl)
noncomputable def zrX12_sureQuestion_0 : List ZR := zc 0 true (.bipush (-2)) 2 (zc 2 true (.istore_n 2) 1 (zc 3 true (.lconst 0) 1 (zc 4 true (.lstore_n 3) 1 (zc 5 true (.iconst 0) 1 (zc 6 true (.istore 5) 2 (zc 8 true (.iload 5) 2 (zc 10 true (.aload_n 0) 1 (zc 11 true (.getfield 299) 3 (zc 14 true (.invokevirtual 374) 3 (zc 17 true (.if_icmp .ge 35) 3 (zc 20 true (.aload_n 0) 1 (zc 21 true (.iload_n 1) 1 (zc 22 true (.iload 5) 2 (zc 24 true (.invokevirtual 349) 3 (zc 27 true (.lload_n 3) 1 (zc 28 true (.lcmp) 1 (zc 29 true (.ifCond .gt 6) 3 (zc 32 true (.goto 14) 3 (zc 35 true (.aload_n 0) 1 (zc 36 true (.iload_n 1) 1 (zc 37 true (.iload 5) 2 (zc 39 true (.invokevirtual 349) 3 (zc 42 true (.lstore_n 3) 1 (zc 43 true (.iload 5) 2 (zc 45 true (.istore_n 2) 1 (zc 46 true (.iinc 5 1) 3 (zc 49 true (.goto (-41)) 3 (zc 52 true (.iload_n 2) 1 (zc 53 true (.ireturn) 1 ([]))))))))))))))))))))))))))))))
theorem zrX12_sureQuestion_0_ok : zck 0 ((zby cX12_sureQuestion).drop 0) zrX12_sureQuestion_0 = true := by decide +kernel
def vfX12_sureQuestion : List Cond := List.cons (.code yX12_sureQuestion cX12_sureQuestion 6 (some .int)) (apW [.fieldLink RX12 299 "HookPierModel" "pier" "LHookPierModel$Pier;", .methodLink RX12 374 yX11_questions, .instanceMethod yX11_questions, .selects RX11 yX11_questions yX11_questions, .initialized RX11, .methodLink RX12 349 yX12_oddsOf, .instanceMethod yX12_oddsOf, .selects RX12 yX12_oddsOf yX12_oddsOf, .initialized RX12] (apW wsX120 (apW vfX11_questions (vfX12_oddsOf))))
theorem ifX12_sureQuestion_X12 : ∀ w ∈ wsX120, w ∈ vfX12_sureQuestion := fun _ h => (List.mem_cons_of_mem _ (List.mem_append_right _ (List.mem_append_left _ h)))
theorem qfX12_sureQuestion : Good vfX12_sureQuestion := gd_cons (by decide +kernel) (gd_app (gd_dec (by decide +kernel) : Good [.fieldLink RX12 299 "HookPierModel" "pier" "LHookPierModel$Pier;", .methodLink RX12 374 yX11_questions, .instanceMethod yX11_questions, .selects RX11 yX11_questions yX11_questions, .initialized RX11, .methodLink RX12 349 yX12_oddsOf, .instanceMethod yX12_oddsOf, .selects RX12 yX12_oddsOf yX12_oddsOf, .initialized RX12]) (gd_app qsX12 (gd_app qfX11_questions qfX12_oddsOf)))
theorem gfX12_sureQuestion_0 : GoodIn vfX12_sureQuestion (wsV RX12 374 RX11 yX11_questions vfX11_questions) := goodIn_app (goodIn_r [.methodLink RX12 374 yX11_questions, .instanceMethod yX11_questions, .selects RX11 yX11_questions yX11_questions, .initialized RX11] [2, 3, 4, 5] rfl (by decide +kernel)) (goodIn_m (fun _ h => (List.mem_cons_of_mem _ (List.mem_append_right _ (List.mem_append_right _ (List.mem_append_left _ h))))) qfX11_questions)
theorem gfX12_sureQuestion_1 : GoodIn vfX12_sureQuestion (wsV RX12 349 RX12 yX12_oddsOf vfX12_oddsOf) := goodIn_app (goodIn_r [.methodLink RX12 349 yX12_oddsOf, .instanceMethod yX12_oddsOf, .selects RX12 yX12_oddsOf yX12_oddsOf, .initialized RX12] [6, 7, 8, 9] rfl (by decide +kernel)) (goodIn_m (fun _ h => (List.mem_cons_of_mem _ (List.mem_append_right _ (List.mem_append_right _ (List.mem_append_right _ h))))) qfX12_oddsOf)
set_option maxHeartbeats 2000000 in
set_option maxRecDepth 100000 in
theorem kfX12_sureQuestion (l : Launch) (dC : Nat → ClassId) (dI : Nat → Nat → Nat) (a0 : Nat) (k1 : Int32) (a2 : Nat) (a3 : Nat) (uq : Nat → Nat) (kq : Nat → ClassId) (m_v : TX12_v) (g7 : Value) (g8 : Value) (g9 : Value) (g10 : Value) (g11 : Value) (g12 : Value) (g13 : Value) (g14 : Value) (g15 : Value) (g16 : Value) (g17 : Value) (g18 : Value) (g19 : Value) (g20 : Value) (g21 : Value) (g22 : Value) (g23 : Value) (g24 : Value) (g25 : Value) (g26 : Value) (g27 : Value) (g28 : Value) (g29 : Value) (g30 : Value) (g31 : Value) (g32 : Value) (g33 : Value) (g34 : Value) (q_q : TX11_q) (cB36 : ClassId) (sz : Nat) (out : Int32) (h : f_X12_sureQuestion k1 m_v q_q = some out) : KDi l yX12_sureQuestion vfX12_sureQuestion ({ frames := 5, cells := 0, slots := 0, locals := 118 }) (dC, dI) [.ref a0, .int k1] sz ((a0, .inr (9, [g7, g8, g9, .ref a2, g10, g11, g12, g13, g14, g15, g16, g17, g18, g19, g20, .ref a3, g21, g22, g23, g24, g25, g26, g27, g28, g29, g30, g31, g32, g33, g34])) :: bX11 a2 uq kq q_q ([(a3, .inl (cB36, 26, .inl m_v))])) (tX11 kq ((cB36, .int) :: [])) (fun (r : Int32) _ => r = out) 0 0 := by
  refine Met.ofW (cc := cX12_sureQuestion) (maxL := 6) (ret := (some .int)) (by decide) rfl ?_
  intro p e s m args below meth c s₁ B0 hml hv
  obtain ⟨rfl, hsz, hP, hK, hD0, hN⟩ := hv
  have hx := B0.exec
  have hb := B0.bytes
  have hr := B0.returns
  have hts := atoms_spec (ws := vfX12_sureQuestion) B0.pre
  have hown : s.vm.findClass RX12 = some m.cls := findClass_of_methodNamed B0.named
  have hlocks := B0.notSynchronized
  subst hsz
  have hD := hD0.self (sz := s.heap.size)
  generalize hAe : va_A ((a0, .inr (9, [g7, g8, g9, .ref a2, g10, g11, g12, g13, g14, g15, g16, g17, g18, g19, g20, .ref a3, g21, g22, g23, g24, g25, g26, g27, g28, g29, g30, g31, g32, g33, g34])) :: bX11 a2 uq kq q_q ([(a3, .inl (cB36, 26, .inl m_v))])) s.heap.size = A at hD ⊢
  have hA : ∀ q : Nat, s.heap.size ≤ q → A q := fun q h => by rw [← hAe]; exact Or.inr h
  have hS : va_S A s.heap s.heap [] := va_S.rf
  have hP : va_P (dC, dI) vwCl ((a0, .inr (9, [g7, g8, g9, .ref a2, g10, g11, g12, g13, g14, g15, g16, g17, g18, g19, g20, .ref a3, g21, g22, g23, g24, g25, g26, g27, g28, g29, g30, g31, g32, g33, g34])) :: bX11 a2 uq kq q_q ([(a3, .inl (cB36, 26, .inl m_v))])) s.heap := hP
  have hl := lv_entry ([.ref a0, .int k1]) (n := 6) (Nat.le_of_ble_eq_true rfl)
  rw [lg_entry_eq]
  generalize (lg_sl ([.ref a0, .int k1]) ++ List.replicate (6 - (lg_sl ([.ref a0, .int k1])).length) Slot.unset).toArray = ls at hl ⊢
  have hl : lv_has ls 6 [(0, .ref a0), (1, .int k1)] := hl
  refine W_q (fun QQ hQQ => ?_)
  rw [f_X12_sureQuestion] at h
  refine lv_bipush (v := (-2)) hx hb (zat zrX12_sureQuestion_0_ok 0 rfl) (by decide) ?_
  refine lv_istore_n (lv' := [(2, .int (-2)), (0, .ref a0), (1, .int k1)]) hx hb (zat zrX12_sureQuestion_0_ok 1 rfl) rfl hl (by decide) rfl (fun ls hl => ?_)
  refine lv_lconst (v := 0) hx hb (zat zrX12_sureQuestion_0_ok 2 rfl) (by decide) ?_
  refine lv_lstore_n (lv' := [(3, .long 0), (2, .int (-2)), (0, .ref a0), (1, .int k1)]) hx hb (zat zrX12_sureQuestion_0_ok 3 rfl) rfl hl (by decide) rfl (fun ls hl => ?_)
  refine lv_iconst (v := 0) hx hb (zat zrX12_sureQuestion_0_ok 4 rfl) (by decide) ?_
  refine lv_istore (lv' := [(5, .int 0), (3, .long 0), (2, .int (-2)), (0, .ref a0), (1, .int k1)]) hx hb (zat zrX12_sureQuestion_0_ok 5 rfl) hl (by decide) rfl (fun ls hl => ?_)
  have L8 : ∀ (n8 : Nat) (v8_l5 : Int32) (v8_l3 : Int64) (v8_l2 : Int32) (H : Heap) (locs : List Loc) (ls : Array Slot), f_X12_sureQuestion_L8 k1 m_v q_q n8 v8_l5 v8_l3 v8_l2 = some out → va_P (dC, dI) vwCl ((a0, .inr (9, [g7, g8, g9, .ref a2, g10, g11, g12, g13, g14, g15, g16, g17, g18, g19, g20, .ref a3, g21, g22, g23, g24, g25, g26, g27, g28, g29, g30, g31, g32, g33, g34])) :: bX11 a2 uq kq q_q ([(a3, .inl (cB36, 26, .inl m_v))])) H → va_D A ((a0, .inr (9, [g7, g8, g9, .ref a2, g10, g11, g12, g13, g14, g15, g16, g17, g18, g19, g20, .ref a3, g21, g22, g23, g24, g25, g26, g27, g28, g29, g30, g31, g32, g33, g34])) :: bX11 a2 uq kq q_q ([(a3, .inl (cB36, 26, .inl m_v))])) → va_S A s.heap H locs → lv_has ls 6 [(5, .int v8_l5), (3, .long v8_l3), (2, .int v8_l2), (0, .ref a0), (1, .int k1)] → W p l e (headSpec vfX12_sureQuestion { frames := 5, cells := 0, slots := 0, locals := 118 }).room s m ([.ref a0, .int k1]).toArray below meth c H locs 0 0 QQ (F0 m 8 ls []) := by
    intro n8
    induction n8 with
    | zero =>
      intro v8_l5 v8_l3 v8_l2 H locs ls h  _ _ _ _
      rw [f_X12_sureQuestion_L8] at h
      cases h
    | succ n8 ih8 =>
      intro v8_l5 v8_l3 v8_l2 H locs ls h  hP hD hS hl
      rw [f_X12_sureQuestion_L8] at h
      refine lv_iload hx hb (zat zrX12_sureQuestion_0_ok 6 rfl) (lv_at hl 0 rfl) ?_
      refine lv_aload_n hx hb (zat zrX12_sureQuestion_0_ok 7 rfl) rfl (lv_at hl 3 rfl) ?_
      refine va_get (D := (dC, dI)) (ci := 9) (v := .ref a2) (C := RX12) (T := TX12) (N := 30) hx hb hts ifX12_sureQuestion_X12 hown hK hP 0 rfl rfl 3 (by decide) (hts (.fieldLink RX12 299 "HookPierModel" "pier" "LHookPierModel$Pier;") (List.mem_of_getElem? (i := 1) rfl)) (fun _ h9 => h9) rfl (zat zrX12_sureQuestion_0_ok 8 rfl) ?_
      obtain ⟨o14, eo14⟩ : ∃ o, o = f_X11_questions q_q := ⟨_, rfl⟩
      have h := nm_of h o14 eo14
      refine ck_i (wc := (bX11 a2 uq kq q_q [])) (wr := ([(a0, .inr (9, [g7, g8, g9, .ref a2, g10, g11, g12, g13, g14, g15, g16, g17, g18, g19, g20, .ref a3, g21, g22, g23, g24, g25, g26, g27, g28, g29, g30, g31, g32, g33, g34])), (a3, .inl (cB36, 26, .inl m_v))])) hP hD hK hS hA [1, 2, 3, 4, 5, 6, 7, 8, 9, 10, 11, 12, 13, 14, 15] [0, 16] rfl rfl (by decide) (by decide) (by decide) (fun hPc hDc => (va_runV (As := []) (rest := [.int v8_l5]) ⟨hx, hb, hml, hown, hts⟩ (kfX11_questions l dC dI a2 uq kq q_q H.size o14 eo14.symm) (cwV 0 hts gfX12_sureQuestion_0 rfl rfl rfl (by decide +kernel) ⟨(Nat.le_of_ble_eq_true rfl), (Nat.le_of_ble_eq_true rfl)⟩) (PV hPc (hK.sub (tys' := (tX11 kq ([]))) [0, 1, 2, 3, 4, 5, 6, 7, 8, 9, 10, 11, 12, 13] rfl) hDc hN 0 rfl rfl) rfl rfl hl.1 rfl (lv_room (Nat.le_of_ble_eq_true rfl)) (zat zrX12_sureQuestion_0_ok 9 rfl) ⟨(Nat.le_of_ble_eq_true rfl), (Nat.le_of_ble_eq_true rfl)⟩)) (fun r14 _ H locs hw hP hD _ hS => ?_)
      obtain rfl := hw.symm
      obtain ⟨hP, hD⟩ := pd_mk ((a0, .inr (9, [g7, g8, g9, .ref a2, g10, g11, g12, g13, g14, g15, g16, g17, g18, g19, g20, .ref a3, g21, g22, g23, g24, g25, g26, g27, g28, g29, g30, g31, g32, g33, g34])) :: (a3, .inl (cB36, 26, .inl m_v)) :: bX11 a2 uq kq q_q []) hP hD
      refine lv_icmp_ge (tgt := 52) hx hb (zat zrX12_sureQuestion_0_ok 10 rfl) (by decide) (fun c17 => ?_) (fun c17 => ?_)
      · have h := (if_pos c17).symm.trans h
        refine lv_iload_n hx hb (zat zrX12_sureQuestion_0_ok 28 rfl) rfl (lv_at hl 2 rfl) ?_
        obtain rfl := Option.some.inj h
        obtain ⟨hP9, hD9⟩ := pd_sub ((a0, .inr (9, [g7, g8, g9, .ref a2, g10, g11, g12, g13, g14, g15, g16, g17, g18, g19, g20, .ref a3, g21, g22, g23, g24, g25, g26, g27, g28, g29, g30, g31, g32, g33, g34])) :: bX11 a2 uq kq q_q ([(a3, .inl (cB36, 26, .inl m_v))])) [0, 2, 3, 4, 5, 6, 7, 8, 9, 10, 11, 12, 13, 14, 15, 16, 1] hP hD (by decide) rfl
        have hK9 := hK.sub (tys' := []) [] rfl
        rw [hQQ]
        exact W.iret (v := v8_l2) hx hb hr (fun t ht hW => ⟨⟨v8_l2, (), rfl, rfl, by rw [ht]; exact hP9, va_K.moved hW.alike hK9, hD9⟩, hS.F ht⟩) hS.2.2 (zat zrX12_sureQuestion_0_ok 29 rfl)
      · have h := (if_neg c17).symm.trans h
        refine lv_aload_n hx hb (zat zrX12_sureQuestion_0_ok 11 rfl) rfl (lv_at hl 3 rfl) ?_
        refine lv_iload_n hx hb (zat zrX12_sureQuestion_0_ok 12 rfl) rfl (lv_at hl 4 rfl) ?_
        refine lv_iload hx hb (zat zrX12_sureQuestion_0_ok 13 rfl) (lv_at hl 0 rfl) ?_
        obtain ⟨o24, eo24, h⟩ := bd_of h
        refine ck_l (wc := ((a0, .inr (9, [g7, g8, g9, .ref a2, g10, g11, g12, g13, g14, g15, g16, g17, g18, g19, g20, .ref a3, g21, g22, g23, g24, g25, g26, g27, g28, g29, g30, g31, g32, g33, g34])) :: bX11 a2 uq kq q_q ([(a3, .inl (cB36, 26, .inl m_v))]))) (wr := []) hP hD hK hS hA [0, 2, 3, 4, 5, 6, 7, 8, 9, 10, 11, 12, 13, 14, 15, 16, 1] [] rfl rfl (by decide) (by decide) (by decide) (fun hPc hDc => (va_runV (As := [.int k1, .int v8_l5]) (rest := []) ⟨hx, hb, hml, hown, hts⟩ (kfX12_oddsOf l dC dI a0 k1 v8_l5 a2 a3 uq kq m_v (g7) (g8) (g9) (g10) (g11) (g12) (g13) (g14) (g15) (g16) (g17) (g18) (g19) (g20) (g21) (g22) (g23) (g24) (g25) (g26) (g27) (g28) (g29) (g30) (g31) (g32) (g33) (g34) q_q cB36 H.size o24 eo24) (cwV 2 hts gfX12_sureQuestion_1 rfl rfl rfl (by decide +kernel) ⟨(Nat.le_of_ble_eq_true rfl), (Nat.le_of_ble_eq_true rfl)⟩) (PV hPc (hK.sub (tys' := (tX11 kq ((cB36, .int) :: []))) [0, 1, 2, 3, 4, 5, 6, 7, 8, 9, 10, 11, 12, 13, 14] rfl) hDc hN 0 rfl rfl) rfl rfl hl.1 rfl (lv_room (Nat.le_of_ble_eq_true rfl)) (zat zrX12_sureQuestion_0_ok 14 rfl) ⟨(Nat.le_of_ble_eq_true rfl), (Nat.le_of_ble_eq_true rfl)⟩)) (fun r24 _ H locs hw hP hD _ hS => ?_)
        obtain rfl := hw.symm
        obtain ⟨hP, hD⟩ := pd_mk ((a0, .inr (9, [g7, g8, g9, .ref a2, g10, g11, g12, g13, g14, g15, g16, g17, g18, g19, g20, .ref a3, g21, g22, g23, g24, g25, g26, g27, g28, g29, g30, g31, g32, g33, g34])) :: bX11 a2 uq kq q_q ([(a3, .inl (cB36, 26, .inl m_v))])) hP hD
        refine lv_lload_n hx hb (zat zrX12_sureQuestion_0_ok 15 rfl) rfl (lv_at hl 1 rfl) ?_
        refine W.lcmp hx hb (zat zrX12_sureQuestion_0_ok 16 rfl) ?_
        have J46 : ∀ (v46_l2 : Int32) (v46_l3 : Int64) (H : Heap) (locs : List Loc) (ls : Array Slot), f_X12_sureQuestion_J46 (f_X12_sureQuestion_L8 k1 m_v q_q n8) v8_l5 v46_l2 v46_l3 = some out → va_P (dC, dI) vwCl ((a0, .inr (9, [g7, g8, g9, .ref a2, g10, g11, g12, g13, g14, g15, g16, g17, g18, g19, g20, .ref a3, g21, g22, g23, g24, g25, g26, g27, g28, g29, g30, g31, g32, g33, g34])) :: bX11 a2 uq kq q_q ([(a3, .inl (cB36, 26, .inl m_v))])) H → va_D A ((a0, .inr (9, [g7, g8, g9, .ref a2, g10, g11, g12, g13, g14, g15, g16, g17, g18, g19, g20, .ref a3, g21, g22, g23, g24, g25, g26, g27, g28, g29, g30, g31, g32, g33, g34])) :: bX11 a2 uq kq q_q ([(a3, .inl (cB36, 26, .inl m_v))])) → va_S A s.heap H locs → lv_has ls 6 [(2, .int v46_l2), (3, .long v46_l3), (5, .int v8_l5), (0, .ref a0), (1, .int k1)] → W p l e (headSpec vfX12_sureQuestion { frames := 5, cells := 0, slots := 0, locals := 118 }).room s m ([.ref a0, .int k1]).toArray below meth c H locs 0 0 QQ (F0 m 46 ls []) := by
          intro v46_l2 v46_l3 H locs ls h  hP hD hS hl
          rw [f_X12_sureQuestion_J46] at h
          refine lv_iinc (v := (v8_l5 + (1 : Int32))) (lv' := [(5, .int (v8_l5 + (1 : Int32))), (2, .int v46_l2), (3, .long v46_l3), (0, .ref a0), (1, .int k1)]) hx hb (zat zrX12_sureQuestion_0_ok 26 rfl) hl (k := 2) rfl rfl (by decide) rfl (fun ls hl => ?_)
          refine lv_goto (tgt := 8) hx hb (zat zrX12_sureQuestion_0_ok 27 rfl) (by decide) ?_
          exact ih8 (v8_l5 + (1 : Int32)) v46_l3 v46_l2 H _ ls h  hP hD hS (lv_sub hl [0, 2, 1, 3, 4] rfl)
        refine lv_if_gt (tgt := 35) hx hb (zat zrX12_sureQuestion_0_ok 17 rfl) (by decide) (fun c29 => ?_) (fun c29 => ?_)
        · have h := (if_pos c29).symm.trans h
          refine lv_aload_n hx hb (zat zrX12_sureQuestion_0_ok 19 rfl) rfl (lv_at hl 3 rfl) ?_
          refine lv_iload_n hx hb (zat zrX12_sureQuestion_0_ok 20 rfl) rfl (lv_at hl 4 rfl) ?_
          refine lv_iload hx hb (zat zrX12_sureQuestion_0_ok 21 rfl) (lv_at hl 0 rfl) ?_
          obtain ⟨o39, eo39, h⟩ := bd_of h
          refine ck_l (wc := ((a0, .inr (9, [g7, g8, g9, .ref a2, g10, g11, g12, g13, g14, g15, g16, g17, g18, g19, g20, .ref a3, g21, g22, g23, g24, g25, g26, g27, g28, g29, g30, g31, g32, g33, g34])) :: bX11 a2 uq kq q_q ([(a3, .inl (cB36, 26, .inl m_v))]))) (wr := []) hP hD hK hS hA [0, 1, 2, 3, 4, 5, 6, 7, 8, 9, 10, 11, 12, 13, 14, 15, 16] [] rfl rfl (by decide) (by decide) (by decide) (fun hPc hDc => (va_runV (As := [.int k1, .int v8_l5]) (rest := []) ⟨hx, hb, hml, hown, hts⟩ (kfX12_oddsOf l dC dI a0 k1 v8_l5 a2 a3 uq kq m_v (g7) (g8) (g9) (g10) (g11) (g12) (g13) (g14) (g15) (g16) (g17) (g18) (g19) (g20) (g21) (g22) (g23) (g24) (g25) (g26) (g27) (g28) (g29) (g30) (g31) (g32) (g33) (g34) q_q cB36 H.size o39 eo39) (cwV 2 hts gfX12_sureQuestion_1 rfl rfl rfl (by decide +kernel) ⟨(Nat.le_of_ble_eq_true rfl), (Nat.le_of_ble_eq_true rfl)⟩) (PV hPc (hK.sub (tys' := (tX11 kq ((cB36, .int) :: []))) [0, 1, 2, 3, 4, 5, 6, 7, 8, 9, 10, 11, 12, 13, 14] rfl) hDc hN 0 rfl rfl) rfl rfl hl.1 rfl (lv_room (Nat.le_of_ble_eq_true rfl)) (zat zrX12_sureQuestion_0_ok 22 rfl) ⟨(Nat.le_of_ble_eq_true rfl), (Nat.le_of_ble_eq_true rfl)⟩)) (fun r39 _ H locs hw hP hD _ hS => ?_)
          obtain rfl := hw.symm
          obtain ⟨hP, hD⟩ := pd_mk ((a0, .inr (9, [g7, g8, g9, .ref a2, g10, g11, g12, g13, g14, g15, g16, g17, g18, g19, g20, .ref a3, g21, g22, g23, g24, g25, g26, g27, g28, g29, g30, g31, g32, g33, g34])) :: bX11 a2 uq kq q_q ([(a3, .inl (cB36, 26, .inl m_v))])) hP hD
          refine lv_lstore_n (lv' := [(3, .long o39), (5, .int v8_l5), (2, .int v8_l2), (0, .ref a0), (1, .int k1)]) hx hb (zat zrX12_sureQuestion_0_ok 23 rfl) rfl hl (by decide) rfl (fun ls hl => ?_)
          refine lv_iload hx hb (zat zrX12_sureQuestion_0_ok 24 rfl) (lv_at hl 1 rfl) ?_
          refine lv_istore_n (lv' := [(2, .int v8_l5), (3, .long o39), (5, .int v8_l5), (0, .ref a0), (1, .int k1)]) hx hb (zat zrX12_sureQuestion_0_ok 25 rfl) rfl hl (by decide) rfl (fun ls hl => ?_)
          exact J46 v8_l5 o39 H _ ls h  hP hD hS (lv_sub hl [0, 1, 2, 3, 4] rfl)
        · have h := (if_neg c29).symm.trans h
          refine lv_goto (tgt := 46) hx hb (zat zrX12_sureQuestion_0_ok 18 rfl) (by decide) ?_
          exact J46 v8_l2 v8_l3 H _ ls h  hP hD hS (lv_sub hl [2, 1, 0, 3, 4] rfl)
  exact L8 FU (0 : Int32) (0 : Int64) (-2 : Int32) s.heap _ ls h  hP hD hS (lv_sub hl [0, 1, 2, 3, 4] rfl)
noncomputable def zrX12_codeOf_0 : List ZR := zc 0 true (.bipush 100) 2 (zc 2 true (.aload_n 0) 1 (zc 3 true (.iload_n 1) 1 (zc 4 true (.invokevirtual 307) 3 (zc 7 true (.imul) 1 (zc 8 true (.bipush 10) 2 (zc 10 true (.aload_n 0) 1 (zc 11 true (.iload_n 1) 1 (zc 12 true (.invokevirtual 310) 3 (zc 15 true (.imul) 1 (zc 16 true (.iadd) 1 (zc 17 true (.aload_n 0) 1 (zc 18 true (.iload_n 1) 1 (zc 19 true (.invokevirtual 313) 3 (zc 22 true (.iadd) 1 (zc 23 true (.ireturn) 1 ([]))))))))))))))))
theorem zrX12_codeOf_0_ok : zck 0 ((zby cX12_codeOf).drop 0) zrX12_codeOf_0 = true := by decide +kernel
def vfX12_codeOf : List Cond := List.cons (.code yX12_codeOf cX12_codeOf 2 (some .int)) (apW [.methodLink RX12 307 yX12_spotOf, .instanceMethod yX12_spotOf, .selects RX12 yX12_spotOf yX12_spotOf, .initialized RX12, .methodLink RX12 310 yX12_fathomsOf, .instanceMethod yX12_fathomsOf, .selects RX12 yX12_fathomsOf yX12_fathomsOf, .methodLink RX12 313 yX12_baitOf, .instanceMethod yX12_baitOf, .selects RX12 yX12_baitOf yX12_baitOf] (apW vfX12_spotOf (apW vfX12_fathomsOf (vfX12_baitOf))))
theorem qfX12_codeOf : Good vfX12_codeOf := gd_cons (by decide +kernel) (gd_app (gd_dec (by decide +kernel) : Good [.methodLink RX12 307 yX12_spotOf, .instanceMethod yX12_spotOf, .selects RX12 yX12_spotOf yX12_spotOf, .initialized RX12, .methodLink RX12 310 yX12_fathomsOf, .instanceMethod yX12_fathomsOf, .selects RX12 yX12_fathomsOf yX12_fathomsOf, .methodLink RX12 313 yX12_baitOf, .instanceMethod yX12_baitOf, .selects RX12 yX12_baitOf yX12_baitOf]) (gd_app qfX12_spotOf (gd_app qfX12_fathomsOf qfX12_baitOf)))
theorem gfX12_codeOf_0 : GoodIn vfX12_codeOf (wsV RX12 307 RX12 yX12_spotOf vfX12_spotOf) := goodIn_app (goodIn_r [.methodLink RX12 307 yX12_spotOf, .instanceMethod yX12_spotOf, .selects RX12 yX12_spotOf yX12_spotOf, .initialized RX12] [1, 2, 3, 4] rfl (by decide +kernel)) (goodIn_m (fun _ h => (List.mem_cons_of_mem _ (List.mem_append_right _ (List.mem_append_left _ h)))) qfX12_spotOf)
theorem gfX12_codeOf_1 : GoodIn vfX12_codeOf (wsV RX12 310 RX12 yX12_fathomsOf vfX12_fathomsOf) := goodIn_app (goodIn_r [.methodLink RX12 310 yX12_fathomsOf, .instanceMethod yX12_fathomsOf, .selects RX12 yX12_fathomsOf yX12_fathomsOf, .initialized RX12] [5, 6, 7, 4] rfl (by decide +kernel)) (goodIn_m (fun _ h => (List.mem_cons_of_mem _ (List.mem_append_right _ (List.mem_append_right _ (List.mem_append_left _ h))))) qfX12_fathomsOf)
theorem gfX12_codeOf_2 : GoodIn vfX12_codeOf (wsV RX12 313 RX12 yX12_baitOf vfX12_baitOf) := goodIn_app (goodIn_r [.methodLink RX12 313 yX12_baitOf, .instanceMethod yX12_baitOf, .selects RX12 yX12_baitOf yX12_baitOf, .initialized RX12] [8, 9, 10, 4] rfl (by decide +kernel)) (goodIn_m (fun _ h => (List.mem_cons_of_mem _ (List.mem_append_right _ (List.mem_append_right _ (List.mem_append_right _ h))))) qfX12_baitOf)
set_option maxHeartbeats 2000000 in
set_option maxRecDepth 100000 in
theorem kfX12_codeOf (l : Launch) (dC : Nat → ClassId) (dI : Nat → Nat → Nat) (a0 : Nat) (k1 : Int32) (a2 : Nat) (uq : Nat → Nat) (kq : Nat → ClassId) (g5 : Value) (g6 : Value) (g7 : Value) (g8 : Value) (g9 : Value) (g10 : Value) (g11 : Value) (g12 : Value) (g13 : Value) (g14 : Value) (g15 : Value) (g16 : Value) (g17 : Value) (g18 : Value) (g19 : Value) (g20 : Value) (g21 : Value) (g22 : Value) (g23 : Value) (g24 : Value) (g25 : Value) (g26 : Value) (g27 : Value) (g28 : Value) (g29 : Value) (g30 : Value) (g31 : Value) (g32 : Value) (g33 : Value) (q_q : TX11_q) (sz : Nat) (out : Int32) (h : f_X12_codeOf k1 q_q = some out) : KDi l yX12_codeOf vfX12_codeOf ({ frames := 1, cells := 0, slots := 0, locals := 21 }) (dC, dI) [.ref a0, .int k1] sz ((a0, .inr (9, [g5, g6, g7, .ref a2, g8, g9, g10, g11, g12, g13, g14, g15, g16, g17, g18, g19, g20, g21, g22, g23, g24, g25, g26, g27, g28, g29, g30, g31, g32, g33])) :: bX11 a2 uq kq q_q []) (tX11 kq ([])) (fun (r : Int32) _ => r = out) 0 0 := by
  refine Met.ofW (cc := cX12_codeOf) (maxL := 2) (ret := (some .int)) (by decide) rfl ?_
  intro p e s m args below meth c s₁ B0 hml hv
  obtain ⟨rfl, hsz, hP, hK, hD0, hN⟩ := hv
  have hx := B0.exec
  have hb := B0.bytes
  have hr := B0.returns
  have hts := atoms_spec (ws := vfX12_codeOf) B0.pre
  have hown : s.vm.findClass RX12 = some m.cls := findClass_of_methodNamed B0.named
  have hlocks := B0.notSynchronized
  subst hsz
  have hD := hD0.self (sz := s.heap.size)
  generalize hAe : va_A ((a0, .inr (9, [g5, g6, g7, .ref a2, g8, g9, g10, g11, g12, g13, g14, g15, g16, g17, g18, g19, g20, g21, g22, g23, g24, g25, g26, g27, g28, g29, g30, g31, g32, g33])) :: bX11 a2 uq kq q_q []) s.heap.size = A at hD ⊢
  have hA : ∀ q : Nat, s.heap.size ≤ q → A q := fun q h => by rw [← hAe]; exact Or.inr h
  have hS : va_S A s.heap s.heap [] := va_S.rf
  have hP : va_P (dC, dI) vwCl ((a0, .inr (9, [g5, g6, g7, .ref a2, g8, g9, g10, g11, g12, g13, g14, g15, g16, g17, g18, g19, g20, g21, g22, g23, g24, g25, g26, g27, g28, g29, g30, g31, g32, g33])) :: bX11 a2 uq kq q_q []) s.heap := hP
  have hl := lv_entry ([.ref a0, .int k1]) (n := 2) (Nat.le_of_ble_eq_true rfl)
  rw [lg_entry_eq]
  generalize (lg_sl ([.ref a0, .int k1]) ++ List.replicate (2 - (lg_sl ([.ref a0, .int k1])).length) Slot.unset).toArray = ls at hl ⊢
  have hl : lv_has ls 2 [(0, .ref a0), (1, .int k1)] := hl
  refine W_q (fun QQ hQQ => ?_)
  rw [f_X12_codeOf] at h
  refine lv_bipush (v := 100) hx hb (zat zrX12_codeOf_0_ok 0 rfl) (by decide) ?_
  refine lv_aload_n hx hb (zat zrX12_codeOf_0_ok 1 rfl) rfl (lv_at hl 0 rfl) ?_
  refine lv_iload_n hx hb (zat zrX12_codeOf_0_ok 2 rfl) rfl (lv_at hl 1 rfl) ?_
  obtain ⟨o4, eo4, h⟩ := bd_of h
  refine ck_i (wc := ((a0, .inr (9, [g5, g6, g7, .ref a2, g8, g9, g10, g11, g12, g13, g14, g15, g16, g17, g18, g19, g20, g21, g22, g23, g24, g25, g26, g27, g28, g29, g30, g31, g32, g33])) :: bX11 a2 uq kq q_q [])) (wr := []) hP hD hK hS hA [0, 1, 2, 3, 4, 5, 6, 7, 8, 9, 10, 11, 12, 13, 14, 15] [] rfl rfl (by decide) (by decide) (by decide) (fun hPc hDc => (va_runV (As := [.int k1]) (rest := [.int 100]) ⟨hx, hb, hml, hown, hts⟩ (kfX12_spotOf l dC dI a0 k1 a2 uq kq (g5) (g6) (g7) (g8) (g9) (g10) (g11) (g12) (g13) (g14) (g15) (g16) (g17) (g18) (g19) (g20) (g21) (g22) (g23) (g24) (g25) (g26) (g27) (g28) (g29) (g30) (g31) (g32) (g33) q_q s.heap.size o4 eo4) (cwV 1 hts gfX12_codeOf_0 rfl rfl rfl (by decide +kernel) ⟨(Nat.le_of_ble_eq_true rfl), (Nat.le_of_ble_eq_true rfl)⟩) (PV hPc (hK.sub (tys' := (tX11 kq ([]))) [0, 1, 2, 3, 4, 5, 6, 7, 8, 9, 10, 11, 12, 13] rfl) hDc hN 0 rfl rfl) rfl rfl hl.1 rfl (lv_room (Nat.le_of_ble_eq_true rfl)) (zat zrX12_codeOf_0_ok 3 rfl) ⟨(Nat.le_of_ble_eq_true rfl), (Nat.le_of_ble_eq_true rfl)⟩)) (fun r4 _ H locs hw hP hD _ hS => ?_)
  obtain rfl := hw.symm
  obtain ⟨hP, hD⟩ := pd_mk ((a0, .inr (9, [g5, g6, g7, .ref a2, g8, g9, g10, g11, g12, g13, g14, g15, g16, g17, g18, g19, g20, g21, g22, g23, g24, g25, g26, g27, g28, g29, g30, g31, g32, g33])) :: bX11 a2 uq kq q_q []) hP hD
  refine lv_imul hx hb (zat zrX12_codeOf_0_ok 4 rfl) ?_
  refine lv_bipush (v := 10) hx hb (zat zrX12_codeOf_0_ok 5 rfl) (by decide) ?_
  refine lv_aload_n hx hb (zat zrX12_codeOf_0_ok 6 rfl) rfl (lv_at hl 0 rfl) ?_
  refine lv_iload_n hx hb (zat zrX12_codeOf_0_ok 7 rfl) rfl (lv_at hl 1 rfl) ?_
  obtain ⟨o12, eo12, h⟩ := bd_of h
  refine ck_i (wc := ((a0, .inr (9, [g5, g6, g7, .ref a2, g8, g9, g10, g11, g12, g13, g14, g15, g16, g17, g18, g19, g20, g21, g22, g23, g24, g25, g26, g27, g28, g29, g30, g31, g32, g33])) :: bX11 a2 uq kq q_q [])) (wr := []) hP hD hK hS hA [0, 1, 2, 3, 4, 5, 6, 7, 8, 9, 10, 11, 12, 13, 14, 15] [] rfl rfl (by decide) (by decide) (by decide) (fun hPc hDc => (va_runV (As := [.int k1]) (rest := [.int 10, .int ((100 : Int32) * o4)]) ⟨hx, hb, hml, hown, hts⟩ (kfX12_fathomsOf l dC dI a0 k1 a2 uq kq (g5) (g6) (g7) (g8) (g9) (g10) (g11) (g12) (g13) (g14) (g15) (g16) (g17) (g18) (g19) (g20) (g21) (g22) (g23) (g24) (g25) (g26) (g27) (g28) (g29) (g30) (g31) (g32) (g33) q_q H.size o12 eo12) (cwV 1 hts gfX12_codeOf_1 rfl rfl rfl (by decide +kernel) ⟨(Nat.le_of_ble_eq_true rfl), (Nat.le_of_ble_eq_true rfl)⟩) (PV hPc (hK.sub (tys' := (tX11 kq ([]))) [0, 1, 2, 3, 4, 5, 6, 7, 8, 9, 10, 11, 12, 13] rfl) hDc hN 0 rfl rfl) rfl rfl hl.1 rfl (lv_room (Nat.le_of_ble_eq_true rfl)) (zat zrX12_codeOf_0_ok 8 rfl) ⟨(Nat.le_of_ble_eq_true rfl), (Nat.le_of_ble_eq_true rfl)⟩)) (fun r12 _ H locs hw hP hD _ hS => ?_)
  obtain rfl := hw.symm
  obtain ⟨hP, hD⟩ := pd_mk ((a0, .inr (9, [g5, g6, g7, .ref a2, g8, g9, g10, g11, g12, g13, g14, g15, g16, g17, g18, g19, g20, g21, g22, g23, g24, g25, g26, g27, g28, g29, g30, g31, g32, g33])) :: bX11 a2 uq kq q_q []) hP hD
  refine lv_imul hx hb (zat zrX12_codeOf_0_ok 9 rfl) ?_
  refine lv_iadd hx hb (zat zrX12_codeOf_0_ok 10 rfl) ?_
  refine lv_aload_n hx hb (zat zrX12_codeOf_0_ok 11 rfl) rfl (lv_at hl 0 rfl) ?_
  refine lv_iload_n hx hb (zat zrX12_codeOf_0_ok 12 rfl) rfl (lv_at hl 1 rfl) ?_
  obtain ⟨o19, eo19, h⟩ := bd_of h
  refine ck_i (wc := ((a0, .inr (9, [g5, g6, g7, .ref a2, g8, g9, g10, g11, g12, g13, g14, g15, g16, g17, g18, g19, g20, g21, g22, g23, g24, g25, g26, g27, g28, g29, g30, g31, g32, g33])) :: bX11 a2 uq kq q_q [])) (wr := []) hP hD hK hS hA [0, 1, 2, 3, 4, 5, 6, 7, 8, 9, 10, 11, 12, 13, 14, 15] [] rfl rfl (by decide) (by decide) (by decide) (fun hPc hDc => (va_runV (As := [.int k1]) (rest := [.int (((100 : Int32) * o4) + ((10 : Int32) * o12))]) ⟨hx, hb, hml, hown, hts⟩ (kfX12_baitOf l dC dI a0 k1 a2 uq kq (g5) (g6) (g7) (g8) (g9) (g10) (g11) (g12) (g13) (g14) (g15) (g16) (g17) (g18) (g19) (g20) (g21) (g22) (g23) (g24) (g25) (g26) (g27) (g28) (g29) (g30) (g31) (g32) (g33) q_q H.size o19 eo19) (cwV 1 hts gfX12_codeOf_2 rfl rfl rfl (by decide +kernel) ⟨(Nat.le_of_ble_eq_true rfl), (Nat.le_of_ble_eq_true rfl)⟩) (PV hPc (hK.sub (tys' := (tX11 kq ([]))) [0, 1, 2, 3, 4, 5, 6, 7, 8, 9, 10, 11, 12, 13] rfl) hDc hN 0 rfl rfl) rfl rfl hl.1 rfl (lv_room (Nat.le_of_ble_eq_true rfl)) (zat zrX12_codeOf_0_ok 13 rfl) ⟨(Nat.le_of_ble_eq_true rfl), (Nat.le_of_ble_eq_true rfl)⟩)) (fun r19 _ H locs hw hP hD _ hS => ?_)
  obtain rfl := hw.symm
  obtain ⟨hP, hD⟩ := pd_mk ((a0, .inr (9, [g5, g6, g7, .ref a2, g8, g9, g10, g11, g12, g13, g14, g15, g16, g17, g18, g19, g20, g21, g22, g23, g24, g25, g26, g27, g28, g29, g30, g31, g32, g33])) :: bX11 a2 uq kq q_q []) hP hD
  refine lv_iadd hx hb (zat zrX12_codeOf_0_ok 14 rfl) ?_
  obtain rfl := Option.some.inj h
  obtain ⟨hP9, hD9⟩ := pd_sub ((a0, .inr (9, [g5, g6, g7, .ref a2, g8, g9, g10, g11, g12, g13, g14, g15, g16, g17, g18, g19, g20, g21, g22, g23, g24, g25, g26, g27, g28, g29, g30, g31, g32, g33])) :: bX11 a2 uq kq q_q []) [0, 1, 2, 3, 4, 5, 6, 7, 8, 9, 10, 11, 12, 13, 14, 15] hP hD (by decide) rfl
  have hK9 := hK.sub (tys' := []) [] rfl
  rw [hQQ]
  exact W.iret (v := ((((100 : Int32) * o4) + ((10 : Int32) * o12)) + o19)) hx hb hr (fun t ht hW => ⟨⟨((((100 : Int32) * o4) + ((10 : Int32) * o12)) + o19), (), rfl, rfl, by rw [ht]; exact hP9, va_K.moved hW.alike hK9, hD9⟩, hS.F ht⟩) hS.2.2 (zat zrX12_codeOf_0_ok 15 rfl)
noncomputable def zrX12_surest_0 : List ZR := zc 0 true (.aload_n 0) 1 (zc 1 true (.iconst 0) 1 (zc 2 true (.putfield 36) 3 (zc 5 true (.aload_n 0) 1 (zc 6 true (.iload_n 1) 1 (zc 7 true (.invokevirtual 377) 3 (zc 10 true (.istore_n 2) 1 (zc 11 true (.iload_n 2) 1 (zc 12 true (.ifCond .le 9) 3 (zc 15 true (.aload_n 0) 1 (zc 16 true (.iload_n 2) 1 (zc 17 true (.invokevirtual 42) 3 (zc 20 true (.ireturn) 1 (zc 21 true (.aload_n 0) 1 (zc 22 true (.iload_n 1) 1 (zc 23 true (.invokevirtual 380) 3 (zc 26 true (.istore_n 3) 1 (zc 27 true (.aload_n 0) 1 (zc 28 true (.iload_n 3) 1 (zc 29 true (.bipush (-2)) 2 (zc 31 true (.if_icmp .ne 8) 3 (zc 34 true (.bipush (-2)) 2 (zc 36 true (.goto 8) 3 (zc 39 true (.aload_n 0) 1 (zc 40 true (.iload_n 3) 1 (zc 41 true (.invokevirtual 383) 3 (zc 44 true (.invokevirtual 46) 3 (zc 47 true (.ireturn) 1 ([]))))))))))))))))))))))))))))
theorem zrX12_surest_0_ok : zck 0 ((zby cX12_surest).drop 0) zrX12_surest_0 = true := by decide +kernel
def vfX12_surest : List Cond := List.cons (.code yX12_surest cX12_surest 4 (some .int)) (apW [.fieldLink RX12 36 "HookPierModel" "thrown" "I", .methodLink RX12 377 yX12_refusesSure, .instanceMethod yX12_refusesSure, .selects RX12 yX12_refusesSure yX12_refusesSure, .initialized RX12, .methodLink RX12 380 yX12_sureQuestion, .instanceMethod yX12_sureQuestion, .selects RX12 yX12_sureQuestion yX12_sureQuestion, .methodLink RX12 46 yX12_good, .instanceMethod yX12_good, .selects RX12 yX12_good yX12_good, .methodLink RX12 383 yX12_codeOf, .instanceMethod yX12_codeOf, .selects RX12 yX12_codeOf yX12_codeOf, .methodLink RX12 42 yX12_refused, .instanceMethod yX12_refused, .selects RX12 yX12_refused yX12_refused] (apW wsX120 (apW vfX12_refusesSure (apW vfX12_sureQuestion (apW vfX12_good (apW vfX12_codeOf (vfX12_refused)))))))
theorem ifX12_surest_X12 : ∀ w ∈ wsX120, w ∈ vfX12_surest := fun _ h => (List.mem_cons_of_mem _ (List.mem_append_right _ (List.mem_append_left _ h)))
theorem qfX12_surest : Good vfX12_surest := gd_cons (by decide +kernel) (gd_app (gd_dec (by decide +kernel) : Good [.fieldLink RX12 36 "HookPierModel" "thrown" "I", .methodLink RX12 377 yX12_refusesSure, .instanceMethod yX12_refusesSure, .selects RX12 yX12_refusesSure yX12_refusesSure, .initialized RX12, .methodLink RX12 380 yX12_sureQuestion, .instanceMethod yX12_sureQuestion, .selects RX12 yX12_sureQuestion yX12_sureQuestion, .methodLink RX12 46 yX12_good, .instanceMethod yX12_good, .selects RX12 yX12_good yX12_good, .methodLink RX12 383 yX12_codeOf, .instanceMethod yX12_codeOf, .selects RX12 yX12_codeOf yX12_codeOf, .methodLink RX12 42 yX12_refused, .instanceMethod yX12_refused, .selects RX12 yX12_refused yX12_refused]) (gd_app qsX12 (gd_app qfX12_refusesSure (gd_app qfX12_sureQuestion (gd_app qfX12_good (gd_app qfX12_codeOf qfX12_refused))))))
theorem gfX12_surest_0 : GoodIn vfX12_surest (wsV RX12 377 RX12 yX12_refusesSure vfX12_refusesSure) := goodIn_app (goodIn_r [.methodLink RX12 377 yX12_refusesSure, .instanceMethod yX12_refusesSure, .selects RX12 yX12_refusesSure yX12_refusesSure, .initialized RX12] [2, 3, 4, 5] rfl (by decide +kernel)) (goodIn_m (fun _ h => (List.mem_cons_of_mem _ (List.mem_append_right _ (List.mem_append_right _ (List.mem_append_left _ h))))) qfX12_refusesSure)
theorem gfX12_surest_1 : GoodIn vfX12_surest (wsV RX12 380 RX12 yX12_sureQuestion vfX12_sureQuestion) := goodIn_app (goodIn_r [.methodLink RX12 380 yX12_sureQuestion, .instanceMethod yX12_sureQuestion, .selects RX12 yX12_sureQuestion yX12_sureQuestion, .initialized RX12] [6, 7, 8, 5] rfl (by decide +kernel)) (goodIn_m (fun _ h => (List.mem_cons_of_mem _ (List.mem_append_right _ (List.mem_append_right _ (List.mem_append_right _ (List.mem_append_left _ h)))))) qfX12_sureQuestion)
theorem gfX12_surest_2 : GoodIn vfX12_surest (wsV RX12 46 RX12 yX12_good vfX12_good) := goodIn_app (goodIn_r [.methodLink RX12 46 yX12_good, .instanceMethod yX12_good, .selects RX12 yX12_good yX12_good, .initialized RX12] [9, 10, 11, 5] rfl (by decide +kernel)) (goodIn_m (fun _ h => (List.mem_cons_of_mem _ (List.mem_append_right _ (List.mem_append_right _ (List.mem_append_right _ (List.mem_append_right _ (List.mem_append_left _ h))))))) qfX12_good)
theorem gfX12_surest_3 : GoodIn vfX12_surest (wsV RX12 383 RX12 yX12_codeOf vfX12_codeOf) := goodIn_app (goodIn_r [.methodLink RX12 383 yX12_codeOf, .instanceMethod yX12_codeOf, .selects RX12 yX12_codeOf yX12_codeOf, .initialized RX12] [12, 13, 14, 5] rfl (by decide +kernel)) (goodIn_m (fun _ h => (List.mem_cons_of_mem _ (List.mem_append_right _ (List.mem_append_right _ (List.mem_append_right _ (List.mem_append_right _ (List.mem_append_right _ (List.mem_append_left _ h)))))))) qfX12_codeOf)
theorem gfX12_surest_4 : GoodIn vfX12_surest (wsV RX12 42 RX12 yX12_refused vfX12_refused) := goodIn_app (goodIn_r [.methodLink RX12 42 yX12_refused, .instanceMethod yX12_refused, .selects RX12 yX12_refused yX12_refused, .initialized RX12] [15, 16, 17, 5] rfl (by decide +kernel)) (goodIn_m (fun _ h => (List.mem_cons_of_mem _ (List.mem_append_right _ (List.mem_append_right _ (List.mem_append_right _ (List.mem_append_right _ (List.mem_append_right _ (List.mem_append_right _ h)))))))) qfX12_refused)
set_option maxHeartbeats 2000000 in
set_option maxRecDepth 100000 in
theorem kfX12_surest (l : Launch) (dC : Nat → ClassId) (dI : Nat → Nat → Nat) (a0 : Nat) (k1 : Int32) (a2 : Nat) (a3 : Nat) (uq : Nat → Nat) (kq : Nat → ClassId) (m_t : TX12_t) (m_v : TX12_v) (g8 : Value) (g9 : Value) (g10 : Value) (g11 : Value) (g12 : Value) (g13 : Value) (g14 : Value) (g15 : Value) (g16 : Value) (g17 : Value) (g18 : Value) (g19 : Value) (g20 : Value) (g21 : Value) (g22 : Value) (g23 : Value) (g24 : Value) (g25 : Value) (g26 : Value) (g27 : Value) (g28 : Value) (g29 : Value) (g30 : Value) (g31 : Value) (g32 : Value) (q_q : TX11_q) (cB34 : ClassId) (sz : Nat) (out : (Int32 × TX12_t)) (h : f_X12_surest k1 m_t m_v q_q = some out) : KCi l yX12_surest vfX12_surest ({ frames := 6, cells := 0, slots := 0, locals := 143 }) (dC, dI) [.ref a0, .int k1] sz ((a0, .inr (9, [.int m_t.1, .int m_t.2.1, .int m_t.2.2, .ref a2, g8, g9, g10, g11, g12, g13, g14, g15, g16, g17, g18, .ref a3, g19, g20, g21, g22, g23, g24, g25, g26, g27, g28, g29, g30, g31, g32])) :: bX11 a2 uq kq q_q ([(a3, .inl (cB34, 26, .inl m_v))])) (tX11 kq ((cB34, .int) :: [])) (fun (r : Int32) _ => r = out.1) ((a0, .inr (9, [.int out.2.1, .int out.2.2.1, .int out.2.2.2, .ref a2, g8, g9, g10, g11, g12, g13, g14, g15, g16, g17, g18, .ref a3, g19, g20, g21, g22, g23, g24, g25, g26, g27, g28, g29, g30, g31, g32])) :: bX11 a2 uq kq q_q ([(a3, .inl (cB34, 26, .inl m_v))])) 0 0 := by
  refine Met.ofW (cc := cX12_surest) (maxL := 4) (ret := (some .int)) (by decide) rfl ?_
  intro p e s m args below meth c s₁ B0 hml hv
  obtain ⟨rfl, hsz, hP, hK, hD0, hN⟩ := hv
  have hx := B0.exec
  have hb := B0.bytes
  have hr := B0.returns
  have hts := atoms_spec (ws := vfX12_surest) B0.pre
  have hown : s.vm.findClass RX12 = some m.cls := findClass_of_methodNamed B0.named
  have hlocks := B0.notSynchronized
  subst hsz
  have hD := hD0.self (sz := s.heap.size)
  generalize hAe : va_A ((a0, .inr (9, [.int m_t.1, .int m_t.2.1, .int m_t.2.2, .ref a2, g8, g9, g10, g11, g12, g13, g14, g15, g16, g17, g18, .ref a3, g19, g20, g21, g22, g23, g24, g25, g26, g27, g28, g29, g30, g31, g32])) :: bX11 a2 uq kq q_q ([(a3, .inl (cB34, 26, .inl m_v))])) s.heap.size = A at hD ⊢
  have hA : ∀ q : Nat, s.heap.size ≤ q → A q := fun q h => by rw [← hAe]; exact Or.inr h
  have hS : va_S A s.heap s.heap [] := va_S.rf
  have hP : va_P (dC, dI) vwCl ((a0, .inr (9, [.int m_t.1, .int m_t.2.1, .int m_t.2.2, .ref a2, g8, g9, g10, g11, g12, g13, g14, g15, g16, g17, g18, .ref a3, g19, g20, g21, g22, g23, g24, g25, g26, g27, g28, g29, g30, g31, g32])) :: bX11 a2 uq kq q_q ([(a3, .inl (cB34, 26, .inl m_v))])) s.heap := hP
  have hl := lv_entry ([.ref a0, .int k1]) (n := 4) (Nat.le_of_ble_eq_true rfl)
  rw [lg_entry_eq]
  generalize (lg_sl ([.ref a0, .int k1]) ++ List.replicate (4 - (lg_sl ([.ref a0, .int k1])).length) Slot.unset).toArray = ls at hl ⊢
  have hl : lv_has ls 4 [(0, .ref a0), (1, .int k1)] := hl
  refine W_q (fun QQ hQQ => ?_)
  rw [f_X12_surest] at h
  refine lv_aload_n hx hb (zat zrX12_surest_0_ok 0 rfl) rfl (lv_at hl 0 rfl) ?_
  refine lv_iconst (v := 0) hx hb (zat zrX12_surest_0_ok 1 rfl) (by decide) ?_
  refine va_put (D := (dC, dI)) (ci := 9) (v := .int 0) (ty := .int) (C := RX12) (T := TX12) (N := 30) hx hb hts ifX12_surest_X12 tyX12 tyX12_ok nmX12 hown hK hP hD hS 0 rfl rfl 0 (by decide) (hts (.fieldLink RX12 36 "HookPierModel" "thrown" "I") (List.mem_of_getElem? (i := 1) rfl)) (fun _ h9 => h9) rfl (by decide +kernel) rfl rfl (Nat.le_of_ble_eq_true rfl) (zat zrX12_surest_0_ok 2 rfl) (fun H locs hP hD hS => ?_)
  obtain ⟨hP, hD⟩ := pd_mk ((a0, .inr (9, [.int 0, .int m_t.2.1, .int m_t.2.2, .ref a2, g8, g9, g10, g11, g12, g13, g14, g15, g16, g17, g18, .ref a3, g19, g20, g21, g22, g23, g24, g25, g26, g27, g28, g29, g30, g31, g32])) :: bX11 a2 uq kq q_q ([(a3, .inl (cB34, 26, .inl m_v))])) hP hD
  refine lv_aload_n hx hb (zat zrX12_surest_0_ok 3 rfl) rfl (lv_at hl 0 rfl) ?_
  refine lv_iload_n hx hb (zat zrX12_surest_0_ok 4 rfl) rfl (lv_at hl 1 rfl) ?_
  obtain ⟨o7, eo7, h⟩ := bd_of h
  refine ck_i (wc := ((a0, .inr (9, [.int 0, .int m_t.2.1, .int m_t.2.2, .ref a2, g8, g9, g10, g11, g12, g13, g14, g15, g16, g17, g18, .ref a3, g19, g20, g21, g22, g23, g24, g25, g26, g27, g28, g29, g30, g31, g32])) :: bX11 a2 uq kq q_q ([(a3, .inl (cB34, 26, .inl m_v))]))) (wr := []) hP hD hK hS hA [0, 1, 2, 3, 4, 5, 6, 7, 8, 9, 10, 11, 12, 13, 14, 15, 16] [] rfl rfl (by decide) (by decide) (by decide) (fun hPc hDc => (va_runV (As := [.int k1]) (rest := []) ⟨hx, hb, hml, hown, hts⟩ (kfX12_refusesSure l dC dI a0 k1 a2 a3 uq kq m_v (.int 0) (.int m_t.2.1) (.int m_t.2.2) (g8) (g9) (g10) (g11) (g12) (g13) (g14) (g15) (g16) (g17) (g18) (g19) (g20) (g21) (g22) (g23) (g24) (g25) (g26) (g27) (g28) (g29) (g30) (g31) (g32) q_q cB34 H.size o7 eo7) (cwV 1 hts gfX12_surest_0 rfl rfl rfl (by decide +kernel) ⟨(Nat.le_of_ble_eq_true rfl), (Nat.le_of_ble_eq_true rfl)⟩) (PV hPc (hK.sub (tys' := (tX11 kq ((cB34, .int) :: []))) [0, 1, 2, 3, 4, 5, 6, 7, 8, 9, 10, 11, 12, 13, 14] rfl) hDc hN 0 rfl rfl) rfl rfl hl.1 rfl (lv_room (Nat.le_of_ble_eq_true rfl)) (zat zrX12_surest_0_ok 5 rfl) ⟨(Nat.le_of_ble_eq_true rfl), (Nat.le_of_ble_eq_true rfl)⟩)) (fun r7 _ H locs hw hP hD _ hS => ?_)
  obtain rfl := hw.symm
  obtain ⟨hP, hD⟩ := pd_mk ((a0, .inr (9, [.int 0, .int m_t.2.1, .int m_t.2.2, .ref a2, g8, g9, g10, g11, g12, g13, g14, g15, g16, g17, g18, .ref a3, g19, g20, g21, g22, g23, g24, g25, g26, g27, g28, g29, g30, g31, g32])) :: bX11 a2 uq kq q_q ([(a3, .inl (cB34, 26, .inl m_v))])) hP hD
  refine lv_istore_n (lv' := [(2, .int o7), (0, .ref a0), (1, .int k1)]) hx hb (zat zrX12_surest_0_ok 6 rfl) rfl hl (by decide) rfl (fun ls hl => ?_)
  refine lv_iload_n hx hb (zat zrX12_surest_0_ok 7 rfl) rfl (lv_at hl 0 rfl) ?_
  refine lv_if_le (tgt := 21) hx hb (zat zrX12_surest_0_ok 8 rfl) (by decide) (fun c12 => ?_) (fun c12 => ?_)
  · have h := (if_pos c12).symm.trans h
    refine lv_aload_n hx hb (zat zrX12_surest_0_ok 13 rfl) rfl (lv_at hl 1 rfl) ?_
    refine lv_iload_n hx hb (zat zrX12_surest_0_ok 14 rfl) rfl (lv_at hl 2 rfl) ?_
    obtain ⟨o23, eo23, h⟩ := bd_of h
    refine ck_i (wc := ((a0, .inr (9, [.int 0, .int m_t.2.1, .int m_t.2.2, .ref a2, g8, g9, g10, g11, g12, g13, g14, g15, g16, g17, g18, .ref a3, g19, g20, g21, g22, g23, g24, g25, g26, g27, g28, g29, g30, g31, g32])) :: bX11 a2 uq kq q_q ([(a3, .inl (cB34, 26, .inl m_v))]))) (wr := []) hP hD hK hS hA [0, 1, 2, 3, 4, 5, 6, 7, 8, 9, 10, 11, 12, 13, 14, 15, 16] [] rfl rfl (by decide) (by decide) (by decide) (fun hPc hDc => (va_runV (As := [.int k1]) (rest := []) ⟨hx, hb, hml, hown, hts⟩ (kfX12_sureQuestion l dC dI a0 k1 a2 a3 uq kq m_v (.int 0) (.int m_t.2.1) (.int m_t.2.2) (g8) (g9) (g10) (g11) (g12) (g13) (g14) (g15) (g16) (g17) (g18) (g19) (g20) (g21) (g22) (g23) (g24) (g25) (g26) (g27) (g28) (g29) (g30) (g31) (g32) q_q cB34 H.size o23 eo23) (cwV 1 hts gfX12_surest_1 rfl rfl rfl (by decide +kernel) ⟨(Nat.le_of_ble_eq_true rfl), (Nat.le_of_ble_eq_true rfl)⟩) (PV hPc (hK.sub (tys' := (tX11 kq ((cB34, .int) :: []))) [0, 1, 2, 3, 4, 5, 6, 7, 8, 9, 10, 11, 12, 13, 14] rfl) hDc hN 0 rfl rfl) rfl rfl hl.1 rfl (lv_room (Nat.le_of_ble_eq_true rfl)) (zat zrX12_surest_0_ok 15 rfl) ⟨(Nat.le_of_ble_eq_true rfl), (Nat.le_of_ble_eq_true rfl)⟩)) (fun r23 _ H locs hw hP hD _ hS => ?_)
    obtain rfl := hw.symm
    obtain ⟨hP, hD⟩ := pd_mk ((a0, .inr (9, [.int 0, .int m_t.2.1, .int m_t.2.2, .ref a2, g8, g9, g10, g11, g12, g13, g14, g15, g16, g17, g18, .ref a3, g19, g20, g21, g22, g23, g24, g25, g26, g27, g28, g29, g30, g31, g32])) :: bX11 a2 uq kq q_q ([(a3, .inl (cB34, 26, .inl m_v))])) hP hD
    refine lv_istore_n (lv' := [(3, .int o23), (2, .int o7), (0, .ref a0), (1, .int k1)]) hx hb (zat zrX12_surest_0_ok 16 rfl) rfl hl (by decide) rfl (fun ls hl => ?_)
    refine lv_aload_n hx hb (zat zrX12_surest_0_ok 17 rfl) rfl (lv_at hl 2 rfl) ?_
    refine lv_iload_n hx hb (zat zrX12_surest_0_ok 18 rfl) rfl (lv_at hl 0 rfl) ?_
    refine lv_bipush (v := (-2)) hx hb (zat zrX12_surest_0_ok 19 rfl) (by decide) ?_
    have J44 : ∀ (v44_t1 : Int32) (H : Heap) (locs : List Loc) (ls : Array Slot), f_X12_surest_J44 m_t v44_t1 = some out → va_P (dC, dI) vwCl ((a3, .inl (cB34, 26, .inl m_v)) :: (a0, .inr (9, [.int 0, .int m_t.2.1, .int m_t.2.2, .ref a2, g8, g9, g10, g11, g12, g13, g14, g15, g16, g17, g18, .ref a3, g19, g20, g21, g22, g23, g24, g25, g26, g27, g28, g29, g30, g31, g32])) :: bX11 a2 uq kq q_q []) H → va_D A ((a3, .inl (cB34, 26, .inl m_v)) :: (a0, .inr (9, [.int 0, .int m_t.2.1, .int m_t.2.2, .ref a2, g8, g9, g10, g11, g12, g13, g14, g15, g16, g17, g18, .ref a3, g19, g20, g21, g22, g23, g24, g25, g26, g27, g28, g29, g30, g31, g32])) :: bX11 a2 uq kq q_q []) → va_S A s.heap H locs → lv_has ls 4 [] → W p l e (headSpec vfX12_surest { frames := 6, cells := 0, slots := 0, locals := 143 }).room s m ([.ref a0, .int k1]).toArray below meth c H locs 0 0 QQ (F0 m 44 ls [.int v44_t1, .ref a0]) := by
      intro v44_t1 H locs ls h  hP hD hS hl
      rw [f_X12_surest_J44] at h
      obtain ⟨o44, eo44⟩ : ∃ o, o = f_X12_good v44_t1 ((0 : Int32), m_t.2) := ⟨_, rfl⟩
      have h := nm_of h o44 eo44
      refine ck_i (wc := ([(a0, .inr (9, [.int 0, .int m_t.2.1, .int m_t.2.2, .ref a2, g8, g9, g10, g11, g12, g13, g14, g15, g16, g17, g18, .ref a3, g19, g20, g21, g22, g23, g24, g25, g26, g27, g28, g29, g30, g31, g32]))])) (wr := ((a3, .inl (cB34, 26, .inl m_v)) :: bX11 a2 uq kq q_q [])) hP hD hK hS hA [1] [0, 2, 3, 4, 5, 6, 7, 8, 9, 10, 11, 12, 13, 14, 15, 16] rfl rfl (by decide) (by decide) (by decide) (fun hPc hDc => (va_runV (As := [.int v44_t1]) (rest := []) ⟨hx, hb, hml, hown, hts⟩ (kfX12_good l dC dI a0 v44_t1 ((0 : Int32), m_t.2) (.ref a2) (g8) (g9) (g10) (g11) (g12) (g13) (g14) (g15) (g16) (g17) (g18) (.ref a3) (g19) (g20) (g21) (g22) (g23) (g24) (g25) (g26) (g27) (g28) (g29) (g30) (g31) (g32) H.size o44 eo44.symm) (cwV 1 hts gfX12_surest_2 rfl rfl rfl (by decide +kernel) ⟨(Nat.le_of_ble_eq_true rfl), (Nat.le_of_ble_eq_true rfl)⟩) (PV hPc (hK.sub (tys' := ([])) [] rfl) hDc hN 0 rfl rfl) rfl rfl hl.1 rfl (lv_room (Nat.le_of_ble_eq_true rfl)) (zat zrX12_surest_0_ok 26 rfl) ⟨(Nat.le_of_ble_eq_true rfl), (Nat.le_of_ble_eq_true rfl)⟩)) (fun r44 _ H locs hw hP hD _ hS => ?_)
      obtain rfl := hw
      obtain ⟨hP, hD⟩ := pd_mk ((a3, .inl (cB34, 26, .inl m_v)) :: bX11 a2 uq kq q_q ([(a0, .inr (9, [.int o44.2.1, .int o44.2.2.1, .int o44.2.2.2, .ref a2, g8, g9, g10, g11, g12, g13, g14, g15, g16, g17, g18, .ref a3, g19, g20, g21, g22, g23, g24, g25, g26, g27, g28, g29, g30, g31, g32]))])) hP hD
      obtain rfl := Option.some.inj h
      obtain ⟨hP9, hD9⟩ := pd_sub ((a0, .inr (9, [.int o44.2.1, .int o44.2.2.1, .int o44.2.2.2, .ref a2, g8, g9, g10, g11, g12, g13, g14, g15, g16, g17, g18, .ref a3, g19, g20, g21, g22, g23, g24, g25, g26, g27, g28, g29, g30, g31, g32])) :: bX11 a2 uq kq q_q ([(a3, .inl (cB34, 26, .inl m_v))])) [16, 1, 2, 3, 4, 5, 6, 7, 8, 9, 10, 11, 12, 13, 14, 15, 0] hP hD (by decide) rfl
      have hK9 := hK.sub (tys' := []) [] rfl
      rw [hQQ]
      exact W.iret (v := o44.1) hx hb hr (fun t ht hW => ⟨⟨o44.1, (), rfl, rfl, by rw [ht]; exact hP9, va_K.moved hW.alike hK9, hD9⟩, hS.F ht⟩) hS.2.2 (zat zrX12_surest_0_ok 27 rfl)
    refine lv_icmp_ne (tgt := 39) hx hb (zat zrX12_surest_0_ok 20 rfl) (by decide) (fun c31 => ?_) (fun c31 => ?_)
    · have h := (if_neg c31).symm.trans h
      refine lv_aload_n hx hb (zat zrX12_surest_0_ok 23 rfl) rfl (lv_at hl 2 rfl) ?_
      refine lv_iload_n hx hb (zat zrX12_surest_0_ok 24 rfl) rfl (lv_at hl 0 rfl) ?_
      obtain ⟨o41, eo41, h⟩ := bd_of h
      refine ck_i (wc := ((a0, .inr (9, [.int 0, .int m_t.2.1, .int m_t.2.2, .ref a2, g8, g9, g10, g11, g12, g13, g14, g15, g16, g17, g18, .ref a3, g19, g20, g21, g22, g23, g24, g25, g26, g27, g28, g29, g30, g31, g32])) :: bX11 a2 uq kq q_q [])) (wr := ([(a3, .inl (cB34, 26, .inl m_v))])) hP hD hK hS hA [0, 1, 2, 3, 4, 5, 6, 7, 8, 9, 10, 11, 12, 13, 14, 15] [16] rfl rfl (by decide) (by decide) (by decide) (fun hPc hDc => (va_runV (As := [.int o23]) (rest := [.ref a0]) ⟨hx, hb, hml, hown, hts⟩ (kfX12_codeOf l dC dI a0 o23 a2 uq kq (.int 0) (.int m_t.2.1) (.int m_t.2.2) (g8) (g9) (g10) (g11) (g12) (g13) (g14) (g15) (g16) (g17) (g18) (.ref a3) (g19) (g20) (g21) (g22) (g23) (g24) (g25) (g26) (g27) (g28) (g29) (g30) (g31) (g32) q_q H.size o41 eo41) (cwV 1 hts gfX12_surest_3 rfl rfl rfl (by decide +kernel) ⟨(Nat.le_of_ble_eq_true rfl), (Nat.le_of_ble_eq_true rfl)⟩) (PV hPc (hK.sub (tys' := (tX11 kq ([]))) [0, 1, 2, 3, 4, 5, 6, 7, 8, 9, 10, 11, 12, 13] rfl) hDc hN 0 rfl rfl) rfl rfl hl.1 rfl (lv_room (Nat.le_of_ble_eq_true rfl)) (zat zrX12_surest_0_ok 25 rfl) ⟨(Nat.le_of_ble_eq_true rfl), (Nat.le_of_ble_eq_true rfl)⟩)) (fun r41 _ H locs hw hP hD _ hS => ?_)
      obtain rfl := hw.symm
      obtain ⟨hP, hD⟩ := pd_mk ((a3, .inl (cB34, 26, .inl m_v)) :: (a0, .inr (9, [.int 0, .int m_t.2.1, .int m_t.2.2, .ref a2, g8, g9, g10, g11, g12, g13, g14, g15, g16, g17, g18, .ref a3, g19, g20, g21, g22, g23, g24, g25, g26, g27, g28, g29, g30, g31, g32])) :: bX11 a2 uq kq q_q []) hP hD
      exact J44 o41 H _ ls h  hP hD hS (lv_sub hl [] rfl)
    · have h := (if_pos c31).symm.trans h
      refine lv_bipush (v := (-2)) hx hb (zat zrX12_surest_0_ok 21 rfl) (by decide) ?_
      refine lv_goto (tgt := 44) hx hb (zat zrX12_surest_0_ok 22 rfl) (by decide) ?_
      exact J44 (-2 : Int32) H _ ls h  (hP.sub (ws' := ((a3, .inl (cB34, 26, .inl m_v)) :: (a0, .inr (9, [.int 0, .int m_t.2.1, .int m_t.2.2, .ref a2, g8, g9, g10, g11, g12, g13, g14, g15, g16, g17, g18, .ref a3, g19, g20, g21, g22, g23, g24, g25, g26, g27, g28, g29, g30, g31, g32])) :: bX11 a2 uq kq q_q [])) [16, 0, 1, 2, 3, 4, 5, 6, 7, 8, 9, 10, 11, 12, 13, 14, 15] rfl) (hD.sub (ws' := ((a3, .inl (cB34, 26, .inl m_v)) :: (a0, .inr (9, [.int 0, .int m_t.2.1, .int m_t.2.2, .ref a2, g8, g9, g10, g11, g12, g13, g14, g15, g16, g17, g18, .ref a3, g19, g20, g21, g22, g23, g24, g25, g26, g27, g28, g29, g30, g31, g32])) :: bX11 a2 uq kq q_q [])) [16, 0, 1, 2, 3, 4, 5, 6, 7, 8, 9, 10, 11, 12, 13, 14, 15] (by decide) rfl) hS (lv_sub hl [] rfl)
  · have h := (if_neg c12).symm.trans h
    refine lv_aload_n hx hb (zat zrX12_surest_0_ok 9 rfl) rfl (lv_at hl 1 rfl) ?_
    refine lv_iload_n hx hb (zat zrX12_surest_0_ok 10 rfl) rfl (lv_at hl 0 rfl) ?_
    obtain ⟨o17, eo17⟩ : ∃ o, o = f_X12_refused o7 ((0 : Int32), m_t.2) := ⟨_, rfl⟩
    have h := nm_of h o17 eo17
    refine ck_i (wc := ([(a0, .inr (9, [.int 0, .int m_t.2.1, .int m_t.2.2, .ref a2, g8, g9, g10, g11, g12, g13, g14, g15, g16, g17, g18, .ref a3, g19, g20, g21, g22, g23, g24, g25, g26, g27, g28, g29, g30, g31, g32]))])) (wr := (bX11 a2 uq kq q_q ([(a3, .inl (cB34, 26, .inl m_v))]))) hP hD hK hS hA [0] [1, 2, 3, 4, 5, 6, 7, 8, 9, 10, 11, 12, 13, 14, 15, 16] rfl rfl (by decide) (by decide) (by decide) (fun hPc hDc => (va_runV (As := [.int o7]) (rest := []) ⟨hx, hb, hml, hown, hts⟩ (kfX12_refused l dC dI a0 o7 ((0 : Int32), m_t.2) (.ref a2) (g8) (g9) (g10) (g11) (g12) (g13) (g14) (g15) (g16) (g17) (g18) (.ref a3) (g19) (g20) (g21) (g22) (g23) (g24) (g25) (g26) (g27) (g28) (g29) (g30) (g31) (g32) H.size o17 eo17.symm) (cwV 1 hts gfX12_surest_4 rfl rfl rfl (by decide +kernel) ⟨(Nat.le_of_ble_eq_true rfl), (Nat.le_of_ble_eq_true rfl)⟩) (PV hPc (hK.sub (tys' := ([])) [] rfl) hDc hN 0 rfl rfl) rfl rfl hl.1 rfl (lv_room (Nat.le_of_ble_eq_true rfl)) (zat zrX12_surest_0_ok 11 rfl) ⟨(Nat.le_of_ble_eq_true rfl), (Nat.le_of_ble_eq_true rfl)⟩)) (fun r17 _ H locs hw hP hD _ hS => ?_)
    obtain rfl := hw
    obtain ⟨hP, hD⟩ := pd_mk (bX11 a2 uq kq q_q ([(a3, .inl (cB34, 26, .inl m_v)), (a0, .inr (9, [.int o17.1, .int o17.2.1, .int o17.2.2, .ref a2, g8, g9, g10, g11, g12, g13, g14, g15, g16, g17, g18, .ref a3, g19, g20, g21, g22, g23, g24, g25, g26, g27, g28, g29, g30, g31, g32]))])) hP hD
    obtain rfl := Option.some.inj h
    obtain ⟨hP9, hD9⟩ := pd_sub ((a0, .inr (9, [.int o17.1, .int o17.2.1, .int o17.2.2, .ref a2, g8, g9, g10, g11, g12, g13, g14, g15, g16, g17, g18, .ref a3, g19, g20, g21, g22, g23, g24, g25, g26, g27, g28, g29, g30, g31, g32])) :: bX11 a2 uq kq q_q ([(a3, .inl (cB34, 26, .inl m_v))])) [16, 0, 1, 2, 3, 4, 5, 6, 7, 8, 9, 10, 11, 12, 13, 14, 15] hP hD (by decide) rfl
    have hK9 := hK.sub (tys' := []) [] rfl
    rw [hQQ]
    exact W.iret (v := (-1 : Int32)) hx hb hr (fun t ht hW => ⟨⟨(-1 : Int32), (), rfl, rfl, by rw [ht]; exact hP9, va_K.moved hW.alike hK9, hD9⟩, hS.F ht⟩) hS.2.2 (zat zrX12_surest_0_ok 12 rfl)
noncomputable def zrX12_surestOdds_0 : List ZR := zc 0 true (.aload_n 0) 1 (zc 1 true (.iconst 0) 1 (zc 2 true (.putfield 36) 3 (zc 5 true (.aload_n 0) 1 (zc 6 true (.iload_n 1) 1 (zc 7 true (.invokevirtual 377) 3 (zc 10 true (.istore_n 3) 1 (zc 11 true (.iload_n 3) 1 (zc 12 true (.ifCond .le 10) 3 (zc 15 true (.aload_n 0) 1 (zc 16 true (.iload_n 3) 1 (zc 17 true (.invokevirtual 42) 3 (zc 20 true (.i2l) 1 (zc 21 true (.lreturn) 1 (zc 22 true (.aload_n 0) 1 (zc 23 true (.iload_n 1) 1 (zc 24 true (.invokevirtual 380) 3 (zc 27 true (.istore 4) 2 (zc 29 true (.aload_n 0) 1 (zc 30 true (.iload 4) 2 (zc 32 true (.bipush (-2)) 2 (zc 34 true (.if_icmp .ne 7) 3 (zc 37 true (.lconst 0) 1 (zc 38 true (.goto 10) 3 (zc 41 true (.aload_n 0) 1 (zc 42 true (.iload_n 1) 1 (zc 43 true (.iload 4) 2 (zc 45 true (.invokevirtual 349) 3 (zc 48 true (.aload_n 0) 1 (zc 49 true (.invokevirtual 360) 3 (zc 52 true (.iload_n 2) 1 (zc 53 true (.invokevirtual 363) 3 (zc 56 true (.lreturn) 1 ([])))))))))))))))))))))))))))))))))
theorem zrX12_surestOdds_0_ok : zck 0 ((zby cX12_surestOdds).drop 0) zrX12_surestOdds_0 = true := by decide +kernel
def vfX12_surestOdds : List Cond := List.cons (.code yX12_surestOdds cX12_surestOdds 5 (some .long)) (apW [.fieldLink RX12 36 "HookPierModel" "thrown" "I", .methodLink RX12 377 yX12_refusesSure, .instanceMethod yX12_refusesSure, .selects RX12 yX12_refusesSure yX12_refusesSure, .initialized RX12, .methodLink RX12 380 yX12_sureQuestion, .instanceMethod yX12_sureQuestion, .selects RX12 yX12_sureQuestion yX12_sureQuestion, .methodLink RX12 360 yX12_whole, .instanceMethod yX12_whole, .selects RX12 yX12_whole yX12_whole, .methodLink RX12 363 yX12_fraction, .instanceMethod yX12_fraction, .selects RX12 yX12_fraction yX12_fraction, .methodLink RX12 349 yX12_oddsOf, .instanceMethod yX12_oddsOf, .selects RX12 yX12_oddsOf yX12_oddsOf, .methodLink RX12 42 yX12_refused, .instanceMethod yX12_refused, .selects RX12 yX12_refused yX12_refused] (apW wsX120 (apW vfX12_refusesSure (apW vfX12_sureQuestion (apW vfX12_whole (apW vfX12_fraction (apW vfX12_oddsOf (vfX12_refused))))))))
theorem ifX12_surestOdds_X12 : ∀ w ∈ wsX120, w ∈ vfX12_surestOdds := fun _ h => (List.mem_cons_of_mem _ (List.mem_append_right _ (List.mem_append_left _ h)))
theorem qfX12_surestOdds : Good vfX12_surestOdds := gd_cons (by decide +kernel) (gd_app (gd_dec (by decide +kernel) : Good [.fieldLink RX12 36 "HookPierModel" "thrown" "I", .methodLink RX12 377 yX12_refusesSure, .instanceMethod yX12_refusesSure, .selects RX12 yX12_refusesSure yX12_refusesSure, .initialized RX12, .methodLink RX12 380 yX12_sureQuestion, .instanceMethod yX12_sureQuestion, .selects RX12 yX12_sureQuestion yX12_sureQuestion, .methodLink RX12 360 yX12_whole, .instanceMethod yX12_whole, .selects RX12 yX12_whole yX12_whole, .methodLink RX12 363 yX12_fraction, .instanceMethod yX12_fraction, .selects RX12 yX12_fraction yX12_fraction, .methodLink RX12 349 yX12_oddsOf, .instanceMethod yX12_oddsOf, .selects RX12 yX12_oddsOf yX12_oddsOf, .methodLink RX12 42 yX12_refused, .instanceMethod yX12_refused, .selects RX12 yX12_refused yX12_refused]) (gd_app qsX12 (gd_app qfX12_refusesSure (gd_app qfX12_sureQuestion (gd_app qfX12_whole (gd_app qfX12_fraction (gd_app qfX12_oddsOf qfX12_refused)))))))
theorem gfX12_surestOdds_0 : GoodIn vfX12_surestOdds (wsV RX12 377 RX12 yX12_refusesSure vfX12_refusesSure) := goodIn_app (goodIn_r [.methodLink RX12 377 yX12_refusesSure, .instanceMethod yX12_refusesSure, .selects RX12 yX12_refusesSure yX12_refusesSure, .initialized RX12] [2, 3, 4, 5] rfl (by decide +kernel)) (goodIn_m (fun _ h => (List.mem_cons_of_mem _ (List.mem_append_right _ (List.mem_append_right _ (List.mem_append_left _ h))))) qfX12_refusesSure)
theorem gfX12_surestOdds_1 : GoodIn vfX12_surestOdds (wsV RX12 380 RX12 yX12_sureQuestion vfX12_sureQuestion) := goodIn_app (goodIn_r [.methodLink RX12 380 yX12_sureQuestion, .instanceMethod yX12_sureQuestion, .selects RX12 yX12_sureQuestion yX12_sureQuestion, .initialized RX12] [6, 7, 8, 5] rfl (by decide +kernel)) (goodIn_m (fun _ h => (List.mem_cons_of_mem _ (List.mem_append_right _ (List.mem_append_right _ (List.mem_append_right _ (List.mem_append_left _ h)))))) qfX12_sureQuestion)
theorem gfX12_surestOdds_2 : GoodIn vfX12_surestOdds (wsV RX12 360 RX12 yX12_whole vfX12_whole) := goodIn_app (goodIn_r [.methodLink RX12 360 yX12_whole, .instanceMethod yX12_whole, .selects RX12 yX12_whole yX12_whole, .initialized RX12] [9, 10, 11, 5] rfl (by decide +kernel)) (goodIn_m (fun _ h => (List.mem_cons_of_mem _ (List.mem_append_right _ (List.mem_append_right _ (List.mem_append_right _ (List.mem_append_right _ (List.mem_append_left _ h))))))) qfX12_whole)
theorem gfX12_surestOdds_3 : GoodIn vfX12_surestOdds (wsV RX12 363 RX12 yX12_fraction vfX12_fraction) := goodIn_app (goodIn_r [.methodLink RX12 363 yX12_fraction, .instanceMethod yX12_fraction, .selects RX12 yX12_fraction yX12_fraction, .initialized RX12] [12, 13, 14, 5] rfl (by decide +kernel)) (goodIn_m (fun _ h => (List.mem_cons_of_mem _ (List.mem_append_right _ (List.mem_append_right _ (List.mem_append_right _ (List.mem_append_right _ (List.mem_append_right _ (List.mem_append_left _ h)))))))) qfX12_fraction)
theorem gfX12_surestOdds_4 : GoodIn vfX12_surestOdds (wsV RX12 349 RX12 yX12_oddsOf vfX12_oddsOf) := goodIn_app (goodIn_r [.methodLink RX12 349 yX12_oddsOf, .instanceMethod yX12_oddsOf, .selects RX12 yX12_oddsOf yX12_oddsOf, .initialized RX12] [15, 16, 17, 5] rfl (by decide +kernel)) (goodIn_m (fun _ h => (List.mem_cons_of_mem _ (List.mem_append_right _ (List.mem_append_right _ (List.mem_append_right _ (List.mem_append_right _ (List.mem_append_right _ (List.mem_append_right _ (List.mem_append_left _ h))))))))) qfX12_oddsOf)
theorem gfX12_surestOdds_5 : GoodIn vfX12_surestOdds (wsV RX12 42 RX12 yX12_refused vfX12_refused) := goodIn_app (goodIn_r [.methodLink RX12 42 yX12_refused, .instanceMethod yX12_refused, .selects RX12 yX12_refused yX12_refused, .initialized RX12] [18, 19, 20, 5] rfl (by decide +kernel)) (goodIn_m (fun _ h => (List.mem_cons_of_mem _ (List.mem_append_right _ (List.mem_append_right _ (List.mem_append_right _ (List.mem_append_right _ (List.mem_append_right _ (List.mem_append_right _ (List.mem_append_right _ h))))))))) qfX12_refused)
set_option maxHeartbeats 2000000 in
set_option maxRecDepth 100000 in
theorem kfX12_surestOdds (l : Launch) (dC : Nat → ClassId) (dI : Nat → Nat → Nat) (a0 : Nat) (k1 : Int32) (k2 : Int32) (a3 : Nat) (a4 : Nat) (uq : Nat → Nat) (kq : Nat → ClassId) (m_t : TX12_t) (m_v : TX12_v) (g9 : Value) (g10 : Value) (g11 : Value) (g12 : Value) (g13 : Value) (g14 : Value) (g15 : Value) (g16 : Value) (g17 : Value) (g18 : Value) (g19 : Value) (g20 : Value) (g21 : Value) (g22 : Value) (g23 : Value) (g24 : Value) (g25 : Value) (g26 : Value) (g27 : Value) (g28 : Value) (g29 : Value) (g30 : Value) (g31 : Value) (g32 : Value) (g33 : Value) (q_q : TX11_q) (cB35 : ClassId) (sz : Nat) (out : (Int64 × TX12_t)) (h : f_X12_surestOdds k1 k2 m_t m_v q_q = some out) : KCl l yX12_surestOdds vfX12_surestOdds ({ frames := 6, cells := 0, slots := 0, locals := 143 }) (dC, dI) [.ref a0, .int k1, .int k2] sz ((a0, .inr (9, [.int m_t.1, .int m_t.2.1, .int m_t.2.2, .ref a3, g9, g10, g11, g12, g13, g14, g15, g16, g17, g18, g19, .ref a4, g20, g21, g22, g23, g24, g25, g26, g27, g28, g29, g30, g31, g32, g33])) :: bX11 a3 uq kq q_q ([(a4, .inl (cB35, 26, .inl m_v))])) (tX11 kq ((cB35, .int) :: [])) (fun (r : Int64) _ => r = out.1) ((a0, .inr (9, [.int out.2.1, .int out.2.2.1, .int out.2.2.2, .ref a3, g9, g10, g11, g12, g13, g14, g15, g16, g17, g18, g19, .ref a4, g20, g21, g22, g23, g24, g25, g26, g27, g28, g29, g30, g31, g32, g33])) :: bX11 a3 uq kq q_q ([(a4, .inl (cB35, 26, .inl m_v))])) 0 0 := by
  refine Met.ofW (cc := cX12_surestOdds) (maxL := 5) (ret := (some .long)) (by decide) rfl ?_
  intro p e s m args below meth c s₁ B0 hml hv
  obtain ⟨rfl, hsz, hP, hK, hD0, hN⟩ := hv
  have hx := B0.exec
  have hb := B0.bytes
  have hr := B0.returns
  have hts := atoms_spec (ws := vfX12_surestOdds) B0.pre
  have hown : s.vm.findClass RX12 = some m.cls := findClass_of_methodNamed B0.named
  have hlocks := B0.notSynchronized
  subst hsz
  have hD := hD0.self (sz := s.heap.size)
  generalize hAe : va_A ((a0, .inr (9, [.int m_t.1, .int m_t.2.1, .int m_t.2.2, .ref a3, g9, g10, g11, g12, g13, g14, g15, g16, g17, g18, g19, .ref a4, g20, g21, g22, g23, g24, g25, g26, g27, g28, g29, g30, g31, g32, g33])) :: bX11 a3 uq kq q_q ([(a4, .inl (cB35, 26, .inl m_v))])) s.heap.size = A at hD ⊢
  have hA : ∀ q : Nat, s.heap.size ≤ q → A q := fun q h => by rw [← hAe]; exact Or.inr h
  have hS : va_S A s.heap s.heap [] := va_S.rf
  have hP : va_P (dC, dI) vwCl ((a0, .inr (9, [.int m_t.1, .int m_t.2.1, .int m_t.2.2, .ref a3, g9, g10, g11, g12, g13, g14, g15, g16, g17, g18, g19, .ref a4, g20, g21, g22, g23, g24, g25, g26, g27, g28, g29, g30, g31, g32, g33])) :: bX11 a3 uq kq q_q ([(a4, .inl (cB35, 26, .inl m_v))])) s.heap := hP
  have hl := lv_entry ([.ref a0, .int k1, .int k2]) (n := 5) (Nat.le_of_ble_eq_true rfl)
  rw [lg_entry_eq]
  generalize (lg_sl ([.ref a0, .int k1, .int k2]) ++ List.replicate (5 - (lg_sl ([.ref a0, .int k1, .int k2])).length) Slot.unset).toArray = ls at hl ⊢
  have hl : lv_has ls 5 [(0, .ref a0), (1, .int k1), (2, .int k2)] := hl
  refine W_q (fun QQ hQQ => ?_)
  rw [f_X12_surestOdds] at h
  refine lv_aload_n hx hb (zat zrX12_surestOdds_0_ok 0 rfl) rfl (lv_at hl 0 rfl) ?_
  refine lv_iconst (v := 0) hx hb (zat zrX12_surestOdds_0_ok 1 rfl) (by decide) ?_
  refine va_put (D := (dC, dI)) (ci := 9) (v := .int 0) (ty := .int) (C := RX12) (T := TX12) (N := 30) hx hb hts ifX12_surestOdds_X12 tyX12 tyX12_ok nmX12 hown hK hP hD hS 0 rfl rfl 0 (by decide) (hts (.fieldLink RX12 36 "HookPierModel" "thrown" "I") (List.mem_of_getElem? (i := 1) rfl)) (fun _ h9 => h9) rfl (by decide +kernel) rfl rfl (Nat.le_of_ble_eq_true rfl) (zat zrX12_surestOdds_0_ok 2 rfl) (fun H locs hP hD hS => ?_)
  obtain ⟨hP, hD⟩ := pd_mk ((a0, .inr (9, [.int 0, .int m_t.2.1, .int m_t.2.2, .ref a3, g9, g10, g11, g12, g13, g14, g15, g16, g17, g18, g19, .ref a4, g20, g21, g22, g23, g24, g25, g26, g27, g28, g29, g30, g31, g32, g33])) :: bX11 a3 uq kq q_q ([(a4, .inl (cB35, 26, .inl m_v))])) hP hD
  refine lv_aload_n hx hb (zat zrX12_surestOdds_0_ok 3 rfl) rfl (lv_at hl 0 rfl) ?_
  refine lv_iload_n hx hb (zat zrX12_surestOdds_0_ok 4 rfl) rfl (lv_at hl 1 rfl) ?_
  obtain ⟨o7, eo7, h⟩ := bd_of h
  refine ck_i (wc := ((a0, .inr (9, [.int 0, .int m_t.2.1, .int m_t.2.2, .ref a3, g9, g10, g11, g12, g13, g14, g15, g16, g17, g18, g19, .ref a4, g20, g21, g22, g23, g24, g25, g26, g27, g28, g29, g30, g31, g32, g33])) :: bX11 a3 uq kq q_q ([(a4, .inl (cB35, 26, .inl m_v))]))) (wr := []) hP hD hK hS hA [0, 1, 2, 3, 4, 5, 6, 7, 8, 9, 10, 11, 12, 13, 14, 15, 16] [] rfl rfl (by decide) (by decide) (by decide) (fun hPc hDc => (va_runV (As := [.int k1]) (rest := []) ⟨hx, hb, hml, hown, hts⟩ (kfX12_refusesSure l dC dI a0 k1 a3 a4 uq kq m_v (.int 0) (.int m_t.2.1) (.int m_t.2.2) (g9) (g10) (g11) (g12) (g13) (g14) (g15) (g16) (g17) (g18) (g19) (g20) (g21) (g22) (g23) (g24) (g25) (g26) (g27) (g28) (g29) (g30) (g31) (g32) (g33) q_q cB35 H.size o7 eo7) (cwV 1 hts gfX12_surestOdds_0 rfl rfl rfl (by decide +kernel) ⟨(Nat.le_of_ble_eq_true rfl), (Nat.le_of_ble_eq_true rfl)⟩) (PV hPc (hK.sub (tys' := (tX11 kq ((cB35, .int) :: []))) [0, 1, 2, 3, 4, 5, 6, 7, 8, 9, 10, 11, 12, 13, 14] rfl) hDc hN 0 rfl rfl) rfl rfl hl.1 rfl (lv_room (Nat.le_of_ble_eq_true rfl)) (zat zrX12_surestOdds_0_ok 5 rfl) ⟨(Nat.le_of_ble_eq_true rfl), (Nat.le_of_ble_eq_true rfl)⟩)) (fun r7 _ H locs hw hP hD _ hS => ?_)
  obtain rfl := hw.symm
  obtain ⟨hP, hD⟩ := pd_mk ((a0, .inr (9, [.int 0, .int m_t.2.1, .int m_t.2.2, .ref a3, g9, g10, g11, g12, g13, g14, g15, g16, g17, g18, g19, .ref a4, g20, g21, g22, g23, g24, g25, g26, g27, g28, g29, g30, g31, g32, g33])) :: bX11 a3 uq kq q_q ([(a4, .inl (cB35, 26, .inl m_v))])) hP hD
  refine lv_istore_n (lv' := [(3, .int o7), (0, .ref a0), (1, .int k1), (2, .int k2)]) hx hb (zat zrX12_surestOdds_0_ok 6 rfl) rfl hl (by decide) rfl (fun ls hl => ?_)
  refine lv_iload_n hx hb (zat zrX12_surestOdds_0_ok 7 rfl) rfl (lv_at hl 0 rfl) ?_
  refine lv_if_le (tgt := 22) hx hb (zat zrX12_surestOdds_0_ok 8 rfl) (by decide) (fun c12 => ?_) (fun c12 => ?_)
  · have h := (if_pos c12).symm.trans h
    refine lv_aload_n hx hb (zat zrX12_surestOdds_0_ok 14 rfl) rfl (lv_at hl 1 rfl) ?_
    refine lv_iload_n hx hb (zat zrX12_surestOdds_0_ok 15 rfl) rfl (lv_at hl 2 rfl) ?_
    obtain ⟨o24, eo24, h⟩ := bd_of h
    refine ck_i (wc := ((a0, .inr (9, [.int 0, .int m_t.2.1, .int m_t.2.2, .ref a3, g9, g10, g11, g12, g13, g14, g15, g16, g17, g18, g19, .ref a4, g20, g21, g22, g23, g24, g25, g26, g27, g28, g29, g30, g31, g32, g33])) :: bX11 a3 uq kq q_q ([(a4, .inl (cB35, 26, .inl m_v))]))) (wr := []) hP hD hK hS hA [0, 1, 2, 3, 4, 5, 6, 7, 8, 9, 10, 11, 12, 13, 14, 15, 16] [] rfl rfl (by decide) (by decide) (by decide) (fun hPc hDc => (va_runV (As := [.int k1]) (rest := []) ⟨hx, hb, hml, hown, hts⟩ (kfX12_sureQuestion l dC dI a0 k1 a3 a4 uq kq m_v (.int 0) (.int m_t.2.1) (.int m_t.2.2) (g9) (g10) (g11) (g12) (g13) (g14) (g15) (g16) (g17) (g18) (g19) (g20) (g21) (g22) (g23) (g24) (g25) (g26) (g27) (g28) (g29) (g30) (g31) (g32) (g33) q_q cB35 H.size o24 eo24) (cwV 1 hts gfX12_surestOdds_1 rfl rfl rfl (by decide +kernel) ⟨(Nat.le_of_ble_eq_true rfl), (Nat.le_of_ble_eq_true rfl)⟩) (PV hPc (hK.sub (tys' := (tX11 kq ((cB35, .int) :: []))) [0, 1, 2, 3, 4, 5, 6, 7, 8, 9, 10, 11, 12, 13, 14] rfl) hDc hN 0 rfl rfl) rfl rfl hl.1 rfl (lv_room (Nat.le_of_ble_eq_true rfl)) (zat zrX12_surestOdds_0_ok 16 rfl) ⟨(Nat.le_of_ble_eq_true rfl), (Nat.le_of_ble_eq_true rfl)⟩)) (fun r24 _ H locs hw hP hD _ hS => ?_)
    obtain rfl := hw.symm
    obtain ⟨hP, hD⟩ := pd_mk ((a0, .inr (9, [.int 0, .int m_t.2.1, .int m_t.2.2, .ref a3, g9, g10, g11, g12, g13, g14, g15, g16, g17, g18, g19, .ref a4, g20, g21, g22, g23, g24, g25, g26, g27, g28, g29, g30, g31, g32, g33])) :: bX11 a3 uq kq q_q ([(a4, .inl (cB35, 26, .inl m_v))])) hP hD
    refine lv_istore (lv' := [(4, .int o24), (3, .int o7), (0, .ref a0), (1, .int k1), (2, .int k2)]) hx hb (zat zrX12_surestOdds_0_ok 17 rfl) hl (by decide) rfl (fun ls hl => ?_)
    refine lv_aload_n hx hb (zat zrX12_surestOdds_0_ok 18 rfl) rfl (lv_at hl 2 rfl) ?_
    refine lv_iload hx hb (zat zrX12_surestOdds_0_ok 19 rfl) (lv_at hl 0 rfl) ?_
    refine lv_bipush (v := (-2)) hx hb (zat zrX12_surestOdds_0_ok 20 rfl) (by decide) ?_
    have J48 : ∀ (v48_t1 : Int64) (H : Heap) (locs : List Loc) (ls : Array Slot), f_X12_surestOdds_J48 k2 m_t m_v q_q v48_t1 = some out → va_P (dC, dI) vwCl ((a0, .inr (9, [.int 0, .int m_t.2.1, .int m_t.2.2, .ref a3, g9, g10, g11, g12, g13, g14, g15, g16, g17, g18, g19, .ref a4, g20, g21, g22, g23, g24, g25, g26, g27, g28, g29, g30, g31, g32, g33])) :: bX11 a3 uq kq q_q ([(a4, .inl (cB35, 26, .inl m_v))])) H → va_D A ((a0, .inr (9, [.int 0, .int m_t.2.1, .int m_t.2.2, .ref a3, g9, g10, g11, g12, g13, g14, g15, g16, g17, g18, g19, .ref a4, g20, g21, g22, g23, g24, g25, g26, g27, g28, g29, g30, g31, g32, g33])) :: bX11 a3 uq kq q_q ([(a4, .inl (cB35, 26, .inl m_v))])) → va_S A s.heap H locs → lv_has ls 5 [(0, .ref a0), (2, .int k2)] → W p l e (headSpec vfX12_surestOdds { frames := 6, cells := 0, slots := 0, locals := 143 }).room s m ([.ref a0, .int k1, .int k2]).toArray below meth c H locs 0 0 QQ (F0 m 48 ls [.long v48_t1, .ref a0]) := by
      intro v48_t1 H locs ls h  hP hD hS hl
      rw [f_X12_surestOdds_J48] at h
      refine lv_aload_n hx hb (zat zrX12_surestOdds_0_ok 28 rfl) rfl (lv_at hl 0 rfl) ?_
      obtain ⟨o49, eo49, h⟩ := bd_of h
      refine ck_l (wc := ((a0, .inr (9, [.int 0, .int m_t.2.1, .int m_t.2.2, .ref a3, g9, g10, g11, g12, g13, g14, g15, g16, g17, g18, g19, .ref a4, g20, g21, g22, g23, g24, g25, g26, g27, g28, g29, g30, g31, g32, g33])) :: bX11 a3 uq kq q_q ([(a4, .inl (cB35, 26, .inl m_v))]))) (wr := []) hP hD hK hS hA [0, 1, 2, 3, 4, 5, 6, 7, 8, 9, 10, 11, 12, 13, 14, 15, 16] [] rfl rfl (by decide) (by decide) (by decide) (fun hPc hDc => (va_runV (As := []) (rest := [.long v48_t1, .ref a0]) ⟨hx, hb, hml, hown, hts⟩ (kfX12_whole l dC dI a0 a3 a4 uq kq m_v (.int 0) (.int m_t.2.1) (.int m_t.2.2) (g9) (g10) (g11) (g12) (g13) (g14) (g15) (g16) (g17) (g18) (g19) (g20) (g21) (g22) (g23) (g24) (g25) (g26) (g27) (g28) (g29) (g30) (g31) (g32) (g33) q_q cB35 H.size o49 eo49) (cwV 0 hts gfX12_surestOdds_2 rfl rfl rfl (by decide +kernel) ⟨(Nat.le_of_ble_eq_true rfl), (Nat.le_of_ble_eq_true rfl)⟩) (PV hPc (hK.sub (tys' := (tX11 kq ((cB35, .int) :: []))) [0, 1, 2, 3, 4, 5, 6, 7, 8, 9, 10, 11, 12, 13, 14] rfl) hDc hN 0 rfl rfl) rfl rfl hl.1 rfl (lv_room (Nat.le_of_ble_eq_true rfl)) (zat zrX12_surestOdds_0_ok 29 rfl) ⟨(Nat.le_of_ble_eq_true rfl), (Nat.le_of_ble_eq_true rfl)⟩)) (fun r49 _ H locs hw hP hD _ hS => ?_)
      obtain rfl := hw.symm
      obtain ⟨hP, hD⟩ := pd_mk ((a0, .inr (9, [.int 0, .int m_t.2.1, .int m_t.2.2, .ref a3, g9, g10, g11, g12, g13, g14, g15, g16, g17, g18, g19, .ref a4, g20, g21, g22, g23, g24, g25, g26, g27, g28, g29, g30, g31, g32, g33])) :: bX11 a3 uq kq q_q ([(a4, .inl (cB35, 26, .inl m_v))])) hP hD
      refine lv_iload_n hx hb (zat zrX12_surestOdds_0_ok 30 rfl) rfl (lv_at hl 1 rfl) ?_
      obtain ⟨o53, eo53, h⟩ := bd_of h
      refine ck_l (wc := ([(a0, .inr (9, [.int 0, .int m_t.2.1, .int m_t.2.2, .ref a3, g9, g10, g11, g12, g13, g14, g15, g16, g17, g18, g19, .ref a4, g20, g21, g22, g23, g24, g25, g26, g27, g28, g29, g30, g31, g32, g33]))])) (wr := (bX11 a3 uq kq q_q ([(a4, .inl (cB35, 26, .inl m_v))]))) hP hD hK hS hA [0] [1, 2, 3, 4, 5, 6, 7, 8, 9, 10, 11, 12, 13, 14, 15, 16] rfl rfl (by decide) (by decide) (by decide) (fun hPc hDc => (va_runV (As := [.long v48_t1, .long o49, .int k2]) (rest := []) ⟨hx, hb, hml, hown, hts⟩ (kfX12_fraction l dC dI a0 v48_t1 o49 k2 ((0 : Int32), m_t.2) (.ref a3) (g9) (g10) (g11) (g12) (g13) (g14) (g15) (g16) (g17) (g18) (g19) (.ref a4) (g20) (g21) (g22) (g23) (g24) (g25) (g26) (g27) (g28) (g29) (g30) (g31) (g32) (g33) H.size o53 eo53) (cwV 3 hts gfX12_surestOdds_3 rfl rfl rfl (by decide +kernel) ⟨(Nat.le_of_ble_eq_true rfl), (Nat.le_of_ble_eq_true rfl)⟩) (PV hPc (hK.sub (tys' := ([])) [] rfl) hDc hN 0 rfl rfl) rfl rfl hl.1 rfl (lv_room (Nat.le_of_ble_eq_true rfl)) (zat zrX12_surestOdds_0_ok 31 rfl) ⟨(Nat.le_of_ble_eq_true rfl), (Nat.le_of_ble_eq_true rfl)⟩)) (fun r53 _ H locs hw hP hD _ hS => ?_)
      obtain rfl := hw
      obtain ⟨hP, hD⟩ := pd_mk (bX11 a3 uq kq q_q ([(a4, .inl (cB35, 26, .inl m_v)), (a0, .inr (9, [.int o53.2.1, .int o53.2.2.1, .int o53.2.2.2, .ref a3, g9, g10, g11, g12, g13, g14, g15, g16, g17, g18, g19, .ref a4, g20, g21, g22, g23, g24, g25, g26, g27, g28, g29, g30, g31, g32, g33]))])) hP hD
      obtain rfl := Option.some.inj h
      obtain ⟨hP9, hD9⟩ := pd_sub ((a0, .inr (9, [.int o53.2.1, .int o53.2.2.1, .int o53.2.2.2, .ref a3, g9, g10, g11, g12, g13, g14, g15, g16, g17, g18, g19, .ref a4, g20, g21, g22, g23, g24, g25, g26, g27, g28, g29, g30, g31, g32, g33])) :: bX11 a3 uq kq q_q ([(a4, .inl (cB35, 26, .inl m_v))])) [16, 0, 1, 2, 3, 4, 5, 6, 7, 8, 9, 10, 11, 12, 13, 14, 15] hP hD (by decide) rfl
      have hK9 := hK.sub (tys' := []) [] rfl
      rw [hQQ]
      exact W.lret (v := o53.1) hx hb hr (fun t ht hW => ⟨⟨o53.1, (), rfl, rfl, by rw [ht]; exact hP9, va_K.moved hW.alike hK9, hD9⟩, hS.F ht⟩) hS.2.2 (zat zrX12_surestOdds_0_ok 32 rfl)
    refine lv_icmp_ne (tgt := 41) hx hb (zat zrX12_surestOdds_0_ok 21 rfl) (by decide) (fun c34 => ?_) (fun c34 => ?_)
    · have h := (if_neg c34).symm.trans h
      refine lv_aload_n hx hb (zat zrX12_surestOdds_0_ok 24 rfl) rfl (lv_at hl 2 rfl) ?_
      refine lv_iload_n hx hb (zat zrX12_surestOdds_0_ok 25 rfl) rfl (lv_at hl 3 rfl) ?_
      refine lv_iload hx hb (zat zrX12_surestOdds_0_ok 26 rfl) (lv_at hl 0 rfl) ?_
      obtain ⟨o45, eo45, h⟩ := bd_of h
      refine ck_l (wc := ((a0, .inr (9, [.int 0, .int m_t.2.1, .int m_t.2.2, .ref a3, g9, g10, g11, g12, g13, g14, g15, g16, g17, g18, g19, .ref a4, g20, g21, g22, g23, g24, g25, g26, g27, g28, g29, g30, g31, g32, g33])) :: bX11 a3 uq kq q_q ([(a4, .inl (cB35, 26, .inl m_v))]))) (wr := []) hP hD hK hS hA [0, 1, 2, 3, 4, 5, 6, 7, 8, 9, 10, 11, 12, 13, 14, 15, 16] [] rfl rfl (by decide) (by decide) (by decide) (fun hPc hDc => (va_runV (As := [.int k1, .int o24]) (rest := [.ref a0]) ⟨hx, hb, hml, hown, hts⟩ (kfX12_oddsOf l dC dI a0 k1 o24 a3 a4 uq kq m_v (.int 0) (.int m_t.2.1) (.int m_t.2.2) (g9) (g10) (g11) (g12) (g13) (g14) (g15) (g16) (g17) (g18) (g19) (g20) (g21) (g22) (g23) (g24) (g25) (g26) (g27) (g28) (g29) (g30) (g31) (g32) (g33) q_q cB35 H.size o45 eo45) (cwV 2 hts gfX12_surestOdds_4 rfl rfl rfl (by decide +kernel) ⟨(Nat.le_of_ble_eq_true rfl), (Nat.le_of_ble_eq_true rfl)⟩) (PV hPc (hK.sub (tys' := (tX11 kq ((cB35, .int) :: []))) [0, 1, 2, 3, 4, 5, 6, 7, 8, 9, 10, 11, 12, 13, 14] rfl) hDc hN 0 rfl rfl) rfl rfl hl.1 rfl (lv_room (Nat.le_of_ble_eq_true rfl)) (zat zrX12_surestOdds_0_ok 27 rfl) ⟨(Nat.le_of_ble_eq_true rfl), (Nat.le_of_ble_eq_true rfl)⟩)) (fun r45 _ H locs hw hP hD _ hS => ?_)
      obtain rfl := hw.symm
      obtain ⟨hP, hD⟩ := pd_mk ((a0, .inr (9, [.int 0, .int m_t.2.1, .int m_t.2.2, .ref a3, g9, g10, g11, g12, g13, g14, g15, g16, g17, g18, g19, .ref a4, g20, g21, g22, g23, g24, g25, g26, g27, g28, g29, g30, g31, g32, g33])) :: bX11 a3 uq kq q_q ([(a4, .inl (cB35, 26, .inl m_v))])) hP hD
      exact J48 o45 H _ ls h  hP hD hS (lv_sub hl [2, 4] rfl)
    · have h := (if_pos c34).symm.trans h
      refine lv_lconst (v := 0) hx hb (zat zrX12_surestOdds_0_ok 22 rfl) (by decide) ?_
      refine lv_goto (tgt := 48) hx hb (zat zrX12_surestOdds_0_ok 23 rfl) (by decide) ?_
      exact J48 (0 : Int64) H _ ls h  hP hD hS (lv_sub hl [2, 4] rfl)
  · have h := (if_neg c12).symm.trans h
    refine lv_aload_n hx hb (zat zrX12_surestOdds_0_ok 9 rfl) rfl (lv_at hl 1 rfl) ?_
    refine lv_iload_n hx hb (zat zrX12_surestOdds_0_ok 10 rfl) rfl (lv_at hl 0 rfl) ?_
    obtain ⟨o17, eo17⟩ : ∃ o, o = f_X12_refused o7 ((0 : Int32), m_t.2) := ⟨_, rfl⟩
    have h := nm_of h o17 eo17
    refine ck_i (wc := ([(a0, .inr (9, [.int 0, .int m_t.2.1, .int m_t.2.2, .ref a3, g9, g10, g11, g12, g13, g14, g15, g16, g17, g18, g19, .ref a4, g20, g21, g22, g23, g24, g25, g26, g27, g28, g29, g30, g31, g32, g33]))])) (wr := (bX11 a3 uq kq q_q ([(a4, .inl (cB35, 26, .inl m_v))]))) hP hD hK hS hA [0] [1, 2, 3, 4, 5, 6, 7, 8, 9, 10, 11, 12, 13, 14, 15, 16] rfl rfl (by decide) (by decide) (by decide) (fun hPc hDc => (va_runV (As := [.int o7]) (rest := []) ⟨hx, hb, hml, hown, hts⟩ (kfX12_refused l dC dI a0 o7 ((0 : Int32), m_t.2) (.ref a3) (g9) (g10) (g11) (g12) (g13) (g14) (g15) (g16) (g17) (g18) (g19) (.ref a4) (g20) (g21) (g22) (g23) (g24) (g25) (g26) (g27) (g28) (g29) (g30) (g31) (g32) (g33) H.size o17 eo17.symm) (cwV 1 hts gfX12_surestOdds_5 rfl rfl rfl (by decide +kernel) ⟨(Nat.le_of_ble_eq_true rfl), (Nat.le_of_ble_eq_true rfl)⟩) (PV hPc (hK.sub (tys' := ([])) [] rfl) hDc hN 0 rfl rfl) rfl rfl hl.1 rfl (lv_room (Nat.le_of_ble_eq_true rfl)) (zat zrX12_surestOdds_0_ok 11 rfl) ⟨(Nat.le_of_ble_eq_true rfl), (Nat.le_of_ble_eq_true rfl)⟩)) (fun r17 _ H locs hw hP hD _ hS => ?_)
    obtain rfl := hw
    obtain ⟨hP, hD⟩ := pd_mk (bX11 a3 uq kq q_q ([(a4, .inl (cB35, 26, .inl m_v)), (a0, .inr (9, [.int o17.1, .int o17.2.1, .int o17.2.2, .ref a3, g9, g10, g11, g12, g13, g14, g15, g16, g17, g18, g19, .ref a4, g20, g21, g22, g23, g24, g25, g26, g27, g28, g29, g30, g31, g32, g33]))])) hP hD
    refine lv_i2l (v := (-1)) hx hb (zat zrX12_surestOdds_0_ok 12 rfl) (by decide) ?_
    obtain rfl := Option.some.inj h
    obtain ⟨hP9, hD9⟩ := pd_sub ((a0, .inr (9, [.int o17.1, .int o17.2.1, .int o17.2.2, .ref a3, g9, g10, g11, g12, g13, g14, g15, g16, g17, g18, g19, .ref a4, g20, g21, g22, g23, g24, g25, g26, g27, g28, g29, g30, g31, g32, g33])) :: bX11 a3 uq kq q_q ([(a4, .inl (cB35, 26, .inl m_v))])) [16, 0, 1, 2, 3, 4, 5, 6, 7, 8, 9, 10, 11, 12, 13, 14, 15] hP hD (by decide) rfl
    have hK9 := hK.sub (tys' := []) [] rfl
    rw [hQQ]
    exact W.lret (v := (-1 : Int64)) hx hb hr (fun t ht hW => ⟨⟨(-1 : Int64), (), rfl, rfl, by rw [ht]; exact hP9, va_K.moved hW.alike hK9, hD9⟩, hS.F ht⟩) hS.2.2 (zat zrX12_surestOdds_0_ok 13 rfl)
noncomputable def zrX12_best_0 : List ZR := zc 0 true (.aload_n 0) 1 (zc 1 true (.iconst 0) 1 (zc 2 true (.putfield 36) 3 (zc 5 true (.aload_n 0) 1 (zc 6 true (.getfield 299) 3 (zc 9 true (.ifnonnull 9) 3 (zc 12 false (.nop) 6 (zc 18 true (.bipush (-2)) 2 (zc 20 true (.istore_n 1) 1 (zc 21 true (.lconst 0) 1 (zc 22 true (.lstore_n 2) 1 (zc 23 true (.iconst 0) 1 (zc 24 true (.istore 4) 2 (zc 26 true (.iload 4) 2 (zc 28 true (.aload_n 0) 1 (zc 29 true (.getfield 299) 3 (zc 32 true (.invokevirtual 374) 3 (zc 35 true (.if_icmp .ge 33) 3 (zc 38 true (.aload_n 0) 1 (zc 39 true (.iload 4) 2 (zc 41 true (.invokevirtual 371) 3 (zc 44 true (.lload_n 2) 1 (zc 45 true (.lcmp) 1 (zc 46 true (.ifCond .gt 6) 3 (zc 49 true (.goto 13) 3 (zc 52 true (.aload_n 0) 1 (zc 53 true (.iload 4) 2 (zc 55 true (.invokevirtual 371) 3 (zc 58 true (.lstore_n 2) 1 (zc 59 true (.iload 4) 2 (zc 61 true (.istore_n 1) 1 (zc 62 true (.iinc 4 1) 3 (zc 65 true (.goto (-39)) 3 (zc 68 true (.aload_n 0) 1 (zc 69 true (.iload_n 1) 1 (zc 70 true (.bipush (-2)) 2 (zc 72 true (.if_icmp .ne 8) 3 (zc 75 true (.bipush (-2)) 2 (zc 77 true (.goto 8) 3 (zc 80 true (.aload_n 0) 1 (zc 81 true (.iload_n 1) 1 (zc 82 true (.invokevirtual 383) 3 (zc 85 true (.invokevirtual 46) 3 (zc 88 true (.ireturn) 1 ([]))))))))))))))))))))))))))))))))))))))))))))
theorem zrX12_best_0_ok : zck 0 ((zby cX12_best).drop 0) zrX12_best_0 = true := by decide +kernel
def vfX12_best : List Cond := List.cons (.code yX12_best cX12_best 5 (some .int)) (apW [.fieldLink RX12 36 "HookPierModel" "thrown" "I", .fieldLink RX12 299 "HookPierModel" "pier" "LHookPierModel$Pier;", .methodLink RX12 374 yX11_questions, .instanceMethod yX11_questions, .selects RX11 yX11_questions yX11_questions, .initialized RX11, .methodLink RX12 46 yX12_good, .instanceMethod yX12_good, .selects RX12 yX12_good yX12_good, .initialized RX12, .methodLink RX12 383 yX12_codeOf, .instanceMethod yX12_codeOf, .selects RX12 yX12_codeOf yX12_codeOf, .methodLink RX12 371 yX12_meanOf, .instanceMethod yX12_meanOf, .selects RX12 yX12_meanOf yX12_meanOf] (apW wsX120 (apW vfX11_questions (apW vfX12_good (apW vfX12_codeOf (vfX12_meanOf))))))
theorem ifX12_best_X12 : ∀ w ∈ wsX120, w ∈ vfX12_best := fun _ h => (List.mem_cons_of_mem _ (List.mem_append_right _ (List.mem_append_left _ h)))
theorem qfX12_best : Good vfX12_best := gd_cons (by decide +kernel) (gd_app (gd_dec (by decide +kernel) : Good [.fieldLink RX12 36 "HookPierModel" "thrown" "I", .fieldLink RX12 299 "HookPierModel" "pier" "LHookPierModel$Pier;", .methodLink RX12 374 yX11_questions, .instanceMethod yX11_questions, .selects RX11 yX11_questions yX11_questions, .initialized RX11, .methodLink RX12 46 yX12_good, .instanceMethod yX12_good, .selects RX12 yX12_good yX12_good, .initialized RX12, .methodLink RX12 383 yX12_codeOf, .instanceMethod yX12_codeOf, .selects RX12 yX12_codeOf yX12_codeOf, .methodLink RX12 371 yX12_meanOf, .instanceMethod yX12_meanOf, .selects RX12 yX12_meanOf yX12_meanOf]) (gd_app qsX12 (gd_app qfX11_questions (gd_app qfX12_good (gd_app qfX12_codeOf qfX12_meanOf)))))
theorem gfX12_best_0 : GoodIn vfX12_best (wsV RX12 374 RX11 yX11_questions vfX11_questions) := goodIn_app (goodIn_r [.methodLink RX12 374 yX11_questions, .instanceMethod yX11_questions, .selects RX11 yX11_questions yX11_questions, .initialized RX11] [3, 4, 5, 6] rfl (by decide +kernel)) (goodIn_m (fun _ h => (List.mem_cons_of_mem _ (List.mem_append_right _ (List.mem_append_right _ (List.mem_append_left _ h))))) qfX11_questions)
theorem gfX12_best_1 : GoodIn vfX12_best (wsV RX12 46 RX12 yX12_good vfX12_good) := goodIn_app (goodIn_r [.methodLink RX12 46 yX12_good, .instanceMethod yX12_good, .selects RX12 yX12_good yX12_good, .initialized RX12] [7, 8, 9, 10] rfl (by decide +kernel)) (goodIn_m (fun _ h => (List.mem_cons_of_mem _ (List.mem_append_right _ (List.mem_append_right _ (List.mem_append_right _ (List.mem_append_left _ h)))))) qfX12_good)
theorem gfX12_best_2 : GoodIn vfX12_best (wsV RX12 383 RX12 yX12_codeOf vfX12_codeOf) := goodIn_app (goodIn_r [.methodLink RX12 383 yX12_codeOf, .instanceMethod yX12_codeOf, .selects RX12 yX12_codeOf yX12_codeOf, .initialized RX12] [11, 12, 13, 10] rfl (by decide +kernel)) (goodIn_m (fun _ h => (List.mem_cons_of_mem _ (List.mem_append_right _ (List.mem_append_right _ (List.mem_append_right _ (List.mem_append_right _ (List.mem_append_left _ h))))))) qfX12_codeOf)
theorem gfX12_best_3 : GoodIn vfX12_best (wsV RX12 371 RX12 yX12_meanOf vfX12_meanOf) := goodIn_app (goodIn_r [.methodLink RX12 371 yX12_meanOf, .instanceMethod yX12_meanOf, .selects RX12 yX12_meanOf yX12_meanOf, .initialized RX12] [14, 15, 16, 10] rfl (by decide +kernel)) (goodIn_m (fun _ h => (List.mem_cons_of_mem _ (List.mem_append_right _ (List.mem_append_right _ (List.mem_append_right _ (List.mem_append_right _ (List.mem_append_right _ h))))))) qfX12_meanOf)
set_option maxHeartbeats 2000000 in
set_option maxRecDepth 100000 in
theorem kfX12_best (l : Launch) (dC : Nat → ClassId) (dI : Nat → Nat → Nat) (a0 : Nat) (a1 : Nat) (a2 : Nat) (uq : Nat → Nat) (kq : Nat → ClassId) (m_t : TX12_t) (m_v : TX12_v) (g7 : Value) (g8 : Value) (g9 : Value) (g10 : Value) (g11 : Value) (g12 : Value) (g13 : Value) (g14 : Value) (g15 : Value) (g16 : Value) (g17 : Value) (g18 : Value) (g19 : Value) (g20 : Value) (g21 : Value) (g22 : Value) (g23 : Value) (g24 : Value) (g25 : Value) (g26 : Value) (g27 : Value) (g28 : Value) (g29 : Value) (g30 : Value) (g31 : Value) (q_q : TX11_q) (cB33 : ClassId) (sz : Nat) (out : (Int32 × TX12_t)) (h : f_X12_best m_t m_v q_q = some out) : KCi l yX12_best vfX12_best ({ frames := 6, cells := 0, slots := 0, locals := 142 }) (dC, dI) [.ref a0] sz ((a0, .inr (9, [.int m_t.1, .int m_t.2.1, .int m_t.2.2, .ref a1, g7, g8, g9, g10, g11, g12, g13, g14, g15, g16, g17, .ref a2, g18, g19, g20, g21, g22, g23, g24, g25, g26, g27, g28, g29, g30, g31])) :: bX11 a1 uq kq q_q ([(a2, .inl (cB33, 26, .inl m_v))])) (tX11 kq ((cB33, .int) :: [])) (fun (r : Int32) _ => r = out.1) ((a0, .inr (9, [.int out.2.1, .int out.2.2.1, .int out.2.2.2, .ref a1, g7, g8, g9, g10, g11, g12, g13, g14, g15, g16, g17, .ref a2, g18, g19, g20, g21, g22, g23, g24, g25, g26, g27, g28, g29, g30, g31])) :: bX11 a1 uq kq q_q ([(a2, .inl (cB33, 26, .inl m_v))])) 0 0 := by
  refine Met.ofW (cc := cX12_best) (maxL := 5) (ret := (some .int)) (by decide) rfl ?_
  intro p e s m args below meth c s₁ B0 hml hv
  obtain ⟨rfl, hsz, hP, hK, hD0, hN⟩ := hv
  have hx := B0.exec
  have hb := B0.bytes
  have hr := B0.returns
  have hts := atoms_spec (ws := vfX12_best) B0.pre
  have hown : s.vm.findClass RX12 = some m.cls := findClass_of_methodNamed B0.named
  have hlocks := B0.notSynchronized
  subst hsz
  have hD := hD0.self (sz := s.heap.size)
  generalize hAe : va_A ((a0, .inr (9, [.int m_t.1, .int m_t.2.1, .int m_t.2.2, .ref a1, g7, g8, g9, g10, g11, g12, g13, g14, g15, g16, g17, .ref a2, g18, g19, g20, g21, g22, g23, g24, g25, g26, g27, g28, g29, g30, g31])) :: bX11 a1 uq kq q_q ([(a2, .inl (cB33, 26, .inl m_v))])) s.heap.size = A at hD ⊢
  have hA : ∀ q : Nat, s.heap.size ≤ q → A q := fun q h => by rw [← hAe]; exact Or.inr h
  have hS : va_S A s.heap s.heap [] := va_S.rf
  have hP : va_P (dC, dI) vwCl ((a0, .inr (9, [.int m_t.1, .int m_t.2.1, .int m_t.2.2, .ref a1, g7, g8, g9, g10, g11, g12, g13, g14, g15, g16, g17, .ref a2, g18, g19, g20, g21, g22, g23, g24, g25, g26, g27, g28, g29, g30, g31])) :: bX11 a1 uq kq q_q ([(a2, .inl (cB33, 26, .inl m_v))])) s.heap := hP
  have hl := lv_entry ([.ref a0]) (n := 5) (Nat.le_of_ble_eq_true rfl)
  rw [lg_entry_eq]
  generalize (lg_sl ([.ref a0]) ++ List.replicate (5 - (lg_sl ([.ref a0])).length) Slot.unset).toArray = ls at hl ⊢
  have hl : lv_has ls 5 [(0, .ref a0)] := hl
  refine W_q (fun QQ hQQ => ?_)
  rw [f_X12_best] at h
  refine lv_aload_n hx hb (zat zrX12_best_0_ok 0 rfl) rfl (lv_at hl 0 rfl) ?_
  refine lv_iconst (v := 0) hx hb (zat zrX12_best_0_ok 1 rfl) (by decide) ?_
  refine va_put (D := (dC, dI)) (ci := 9) (v := .int 0) (ty := .int) (C := RX12) (T := TX12) (N := 30) hx hb hts ifX12_best_X12 tyX12 tyX12_ok nmX12 hown hK hP hD hS 0 rfl rfl 0 (by decide) (hts (.fieldLink RX12 36 "HookPierModel" "thrown" "I") (List.mem_of_getElem? (i := 1) rfl)) (fun _ h9 => h9) rfl (by decide +kernel) rfl rfl (Nat.le_of_ble_eq_true rfl) (zat zrX12_best_0_ok 2 rfl) (fun H locs hP hD hS => ?_)
  obtain ⟨hP, hD⟩ := pd_mk ((a0, .inr (9, [.int 0, .int m_t.2.1, .int m_t.2.2, .ref a1, g7, g8, g9, g10, g11, g12, g13, g14, g15, g16, g17, .ref a2, g18, g19, g20, g21, g22, g23, g24, g25, g26, g27, g28, g29, g30, g31])) :: bX11 a1 uq kq q_q ([(a2, .inl (cB33, 26, .inl m_v))])) hP hD
  refine lv_aload_n hx hb (zat zrX12_best_0_ok 3 rfl) rfl (lv_at hl 0 rfl) ?_
  refine va_get (D := (dC, dI)) (ci := 9) (v := .ref a1) (C := RX12) (T := TX12) (N := 30) hx hb hts ifX12_best_X12 hown hK hP 0 rfl rfl 3 (by decide) (hts (.fieldLink RX12 299 "HookPierModel" "pier" "LHookPierModel$Pier;") (List.mem_of_getElem? (i := 2) rfl)) (fun _ h9 => h9) rfl (zat zrX12_best_0_ok 4 rfl) ?_
  refine lv_ifnonnull (tgt := 18) hx hb (zat zrX12_best_0_ok 5 rfl) (by decide) ?_
  refine lv_bipush (v := (-2)) hx hb (zat zrX12_best_0_ok 7 rfl) (by decide) ?_
  refine lv_istore_n (lv' := [(1, .int (-2)), (0, .ref a0)]) hx hb (zat zrX12_best_0_ok 8 rfl) rfl hl (by decide) rfl (fun ls hl => ?_)
  refine lv_lconst (v := 0) hx hb (zat zrX12_best_0_ok 9 rfl) (by decide) ?_
  refine lv_lstore_n (lv' := [(2, .long 0), (1, .int (-2)), (0, .ref a0)]) hx hb (zat zrX12_best_0_ok 10 rfl) rfl hl (by decide) rfl (fun ls hl => ?_)
  refine lv_iconst (v := 0) hx hb (zat zrX12_best_0_ok 11 rfl) (by decide) ?_
  refine lv_istore (lv' := [(4, .int 0), (2, .long 0), (1, .int (-2)), (0, .ref a0)]) hx hb (zat zrX12_best_0_ok 12 rfl) hl (by decide) rfl (fun ls hl => ?_)
  have L26 : ∀ (n26 : Nat) (v26_l4 : Int32) (v26_l2 : Int64) (v26_l1 : Int32) (H : Heap) (locs : List Loc) (ls : Array Slot), f_X12_best_L26 m_t m_v q_q n26 v26_l4 v26_l2 v26_l1 = some out → va_P (dC, dI) vwCl ((a0, .inr (9, [.int 0, .int m_t.2.1, .int m_t.2.2, .ref a1, g7, g8, g9, g10, g11, g12, g13, g14, g15, g16, g17, .ref a2, g18, g19, g20, g21, g22, g23, g24, g25, g26, g27, g28, g29, g30, g31])) :: bX11 a1 uq kq q_q ([(a2, .inl (cB33, 26, .inl m_v))])) H → va_D A ((a0, .inr (9, [.int 0, .int m_t.2.1, .int m_t.2.2, .ref a1, g7, g8, g9, g10, g11, g12, g13, g14, g15, g16, g17, .ref a2, g18, g19, g20, g21, g22, g23, g24, g25, g26, g27, g28, g29, g30, g31])) :: bX11 a1 uq kq q_q ([(a2, .inl (cB33, 26, .inl m_v))])) → va_S A s.heap H locs → lv_has ls 5 [(4, .int v26_l4), (2, .long v26_l2), (1, .int v26_l1), (0, .ref a0)] → W p l e (headSpec vfX12_best { frames := 6, cells := 0, slots := 0, locals := 142 }).room s m ([.ref a0]).toArray below meth c H locs 0 0 QQ (F0 m 26 ls []) := by
    intro n26
    induction n26 with
    | zero =>
      intro v26_l4 v26_l2 v26_l1 H locs ls h  _ _ _ _
      rw [f_X12_best_L26] at h
      cases h
    | succ n26 ih26 =>
      intro v26_l4 v26_l2 v26_l1 H locs ls h  hP hD hS hl
      rw [f_X12_best_L26] at h
      refine lv_iload hx hb (zat zrX12_best_0_ok 13 rfl) (lv_at hl 0 rfl) ?_
      refine lv_aload_n hx hb (zat zrX12_best_0_ok 14 rfl) rfl (lv_at hl 3 rfl) ?_
      refine va_get (D := (dC, dI)) (ci := 9) (v := .ref a1) (C := RX12) (T := TX12) (N := 30) hx hb hts ifX12_best_X12 hown hK hP 0 rfl rfl 3 (by decide) (hts (.fieldLink RX12 299 "HookPierModel" "pier" "LHookPierModel$Pier;") (List.mem_of_getElem? (i := 2) rfl)) (fun _ h9 => h9) rfl (zat zrX12_best_0_ok 15 rfl) ?_
      obtain ⟨o32, eo32⟩ : ∃ o, o = f_X11_questions q_q := ⟨_, rfl⟩
      have h := nm_of h o32 eo32
      refine ck_i (wc := (bX11 a1 uq kq q_q [])) (wr := ([(a0, .inr (9, [.int 0, .int m_t.2.1, .int m_t.2.2, .ref a1, g7, g8, g9, g10, g11, g12, g13, g14, g15, g16, g17, .ref a2, g18, g19, g20, g21, g22, g23, g24, g25, g26, g27, g28, g29, g30, g31])), (a2, .inl (cB33, 26, .inl m_v))])) hP hD hK hS hA [1, 2, 3, 4, 5, 6, 7, 8, 9, 10, 11, 12, 13, 14, 15] [0, 16] rfl rfl (by decide) (by decide) (by decide) (fun hPc hDc => (va_runV (As := []) (rest := [.int v26_l4]) ⟨hx, hb, hml, hown, hts⟩ (kfX11_questions l dC dI a1 uq kq q_q H.size o32 eo32.symm) (cwV 0 hts gfX12_best_0 rfl rfl rfl (by decide +kernel) ⟨(Nat.le_of_ble_eq_true rfl), (Nat.le_of_ble_eq_true rfl)⟩) (PV hPc (hK.sub (tys' := (tX11 kq ([]))) [0, 1, 2, 3, 4, 5, 6, 7, 8, 9, 10, 11, 12, 13] rfl) hDc hN 0 rfl rfl) rfl rfl hl.1 rfl (lv_room (Nat.le_of_ble_eq_true rfl)) (zat zrX12_best_0_ok 16 rfl) ⟨(Nat.le_of_ble_eq_true rfl), (Nat.le_of_ble_eq_true rfl)⟩)) (fun r32 _ H locs hw hP hD _ hS => ?_)
      obtain rfl := hw.symm
      obtain ⟨hP, hD⟩ := pd_mk ((a0, .inr (9, [.int 0, .int m_t.2.1, .int m_t.2.2, .ref a1, g7, g8, g9, g10, g11, g12, g13, g14, g15, g16, g17, .ref a2, g18, g19, g20, g21, g22, g23, g24, g25, g26, g27, g28, g29, g30, g31])) :: (a2, .inl (cB33, 26, .inl m_v)) :: bX11 a1 uq kq q_q []) hP hD
      refine lv_icmp_ge (tgt := 68) hx hb (zat zrX12_best_0_ok 17 rfl) (by decide) (fun c35 => ?_) (fun c35 => ?_)
      · have h := (if_pos c35).symm.trans h
        refine lv_aload_n hx hb (zat zrX12_best_0_ok 33 rfl) rfl (lv_at hl 3 rfl) ?_
        refine lv_iload_n hx hb (zat zrX12_best_0_ok 34 rfl) rfl (lv_at hl 2 rfl) ?_
        refine lv_bipush (v := (-2)) hx hb (zat zrX12_best_0_ok 35 rfl) (by decide) ?_
        have J85 : ∀ (v85_t1 : Int32) (H : Heap) (locs : List Loc) (ls : Array Slot), f_X12_best_J85 m_t v85_t1 = some out → va_P (dC, dI) vwCl ((a2, .inl (cB33, 26, .inl m_v)) :: (a0, .inr (9, [.int 0, .int m_t.2.1, .int m_t.2.2, .ref a1, g7, g8, g9, g10, g11, g12, g13, g14, g15, g16, g17, .ref a2, g18, g19, g20, g21, g22, g23, g24, g25, g26, g27, g28, g29, g30, g31])) :: bX11 a1 uq kq q_q []) H → va_D A ((a2, .inl (cB33, 26, .inl m_v)) :: (a0, .inr (9, [.int 0, .int m_t.2.1, .int m_t.2.2, .ref a1, g7, g8, g9, g10, g11, g12, g13, g14, g15, g16, g17, .ref a2, g18, g19, g20, g21, g22, g23, g24, g25, g26, g27, g28, g29, g30, g31])) :: bX11 a1 uq kq q_q []) → va_S A s.heap H locs → lv_has ls 5 [] → W p l e (headSpec vfX12_best { frames := 6, cells := 0, slots := 0, locals := 142 }).room s m ([.ref a0]).toArray below meth c H locs 0 0 QQ (F0 m 85 ls [.int v85_t1, .ref a0]) := by
          intro v85_t1 H locs ls h  hP hD hS hl
          rw [f_X12_best_J85] at h
          obtain ⟨o85, eo85⟩ : ∃ o, o = f_X12_good v85_t1 ((0 : Int32), m_t.2) := ⟨_, rfl⟩
          have h := nm_of h o85 eo85
          refine ck_i (wc := ([(a0, .inr (9, [.int 0, .int m_t.2.1, .int m_t.2.2, .ref a1, g7, g8, g9, g10, g11, g12, g13, g14, g15, g16, g17, .ref a2, g18, g19, g20, g21, g22, g23, g24, g25, g26, g27, g28, g29, g30, g31]))])) (wr := ((a2, .inl (cB33, 26, .inl m_v)) :: bX11 a1 uq kq q_q [])) hP hD hK hS hA [1] [0, 2, 3, 4, 5, 6, 7, 8, 9, 10, 11, 12, 13, 14, 15, 16] rfl rfl (by decide) (by decide) (by decide) (fun hPc hDc => (va_runV (As := [.int v85_t1]) (rest := []) ⟨hx, hb, hml, hown, hts⟩ (kfX12_good l dC dI a0 v85_t1 ((0 : Int32), m_t.2) (.ref a1) (g7) (g8) (g9) (g10) (g11) (g12) (g13) (g14) (g15) (g16) (g17) (.ref a2) (g18) (g19) (g20) (g21) (g22) (g23) (g24) (g25) (g26) (g27) (g28) (g29) (g30) (g31) H.size o85 eo85.symm) (cwV 1 hts gfX12_best_1 rfl rfl rfl (by decide +kernel) ⟨(Nat.le_of_ble_eq_true rfl), (Nat.le_of_ble_eq_true rfl)⟩) (PV hPc (hK.sub (tys' := ([])) [] rfl) hDc hN 0 rfl rfl) rfl rfl hl.1 rfl (lv_room (Nat.le_of_ble_eq_true rfl)) (zat zrX12_best_0_ok 42 rfl) ⟨(Nat.le_of_ble_eq_true rfl), (Nat.le_of_ble_eq_true rfl)⟩)) (fun r85 _ H locs hw hP hD _ hS => ?_)
          obtain rfl := hw
          obtain ⟨hP, hD⟩ := pd_mk ((a2, .inl (cB33, 26, .inl m_v)) :: bX11 a1 uq kq q_q ([(a0, .inr (9, [.int o85.2.1, .int o85.2.2.1, .int o85.2.2.2, .ref a1, g7, g8, g9, g10, g11, g12, g13, g14, g15, g16, g17, .ref a2, g18, g19, g20, g21, g22, g23, g24, g25, g26, g27, g28, g29, g30, g31]))])) hP hD
          obtain rfl := Option.some.inj h
          obtain ⟨hP9, hD9⟩ := pd_sub ((a0, .inr (9, [.int o85.2.1, .int o85.2.2.1, .int o85.2.2.2, .ref a1, g7, g8, g9, g10, g11, g12, g13, g14, g15, g16, g17, .ref a2, g18, g19, g20, g21, g22, g23, g24, g25, g26, g27, g28, g29, g30, g31])) :: bX11 a1 uq kq q_q ([(a2, .inl (cB33, 26, .inl m_v))])) [16, 1, 2, 3, 4, 5, 6, 7, 8, 9, 10, 11, 12, 13, 14, 15, 0] hP hD (by decide) rfl
          have hK9 := hK.sub (tys' := []) [] rfl
          rw [hQQ]
          exact W.iret (v := o85.1) hx hb hr (fun t ht hW => ⟨⟨o85.1, (), rfl, rfl, by rw [ht]; exact hP9, va_K.moved hW.alike hK9, hD9⟩, hS.F ht⟩) hS.2.2 (zat zrX12_best_0_ok 43 rfl)
        refine lv_icmp_ne (tgt := 80) hx hb (zat zrX12_best_0_ok 36 rfl) (by decide) (fun c72 => ?_) (fun c72 => ?_)
        · have h := (if_neg c72).symm.trans h
          refine lv_aload_n hx hb (zat zrX12_best_0_ok 39 rfl) rfl (lv_at hl 3 rfl) ?_
          refine lv_iload_n hx hb (zat zrX12_best_0_ok 40 rfl) rfl (lv_at hl 2 rfl) ?_
          obtain ⟨o82, eo82, h⟩ := bd_of h
          refine ck_i (wc := ((a0, .inr (9, [.int 0, .int m_t.2.1, .int m_t.2.2, .ref a1, g7, g8, g9, g10, g11, g12, g13, g14, g15, g16, g17, .ref a2, g18, g19, g20, g21, g22, g23, g24, g25, g26, g27, g28, g29, g30, g31])) :: bX11 a1 uq kq q_q [])) (wr := ([(a2, .inl (cB33, 26, .inl m_v))])) hP hD hK hS hA [0, 2, 3, 4, 5, 6, 7, 8, 9, 10, 11, 12, 13, 14, 15, 16] [1] rfl rfl (by decide) (by decide) (by decide) (fun hPc hDc => (va_runV (As := [.int v26_l1]) (rest := [.ref a0]) ⟨hx, hb, hml, hown, hts⟩ (kfX12_codeOf l dC dI a0 v26_l1 a1 uq kq (.int 0) (.int m_t.2.1) (.int m_t.2.2) (g7) (g8) (g9) (g10) (g11) (g12) (g13) (g14) (g15) (g16) (g17) (.ref a2) (g18) (g19) (g20) (g21) (g22) (g23) (g24) (g25) (g26) (g27) (g28) (g29) (g30) (g31) q_q H.size o82 eo82) (cwV 1 hts gfX12_best_2 rfl rfl rfl (by decide +kernel) ⟨(Nat.le_of_ble_eq_true rfl), (Nat.le_of_ble_eq_true rfl)⟩) (PV hPc (hK.sub (tys' := (tX11 kq ([]))) [0, 1, 2, 3, 4, 5, 6, 7, 8, 9, 10, 11, 12, 13] rfl) hDc hN 0 rfl rfl) rfl rfl hl.1 rfl (lv_room (Nat.le_of_ble_eq_true rfl)) (zat zrX12_best_0_ok 41 rfl) ⟨(Nat.le_of_ble_eq_true rfl), (Nat.le_of_ble_eq_true rfl)⟩)) (fun r82 _ H locs hw hP hD _ hS => ?_)
          obtain rfl := hw.symm
          obtain ⟨hP, hD⟩ := pd_mk ((a2, .inl (cB33, 26, .inl m_v)) :: (a0, .inr (9, [.int 0, .int m_t.2.1, .int m_t.2.2, .ref a1, g7, g8, g9, g10, g11, g12, g13, g14, g15, g16, g17, .ref a2, g18, g19, g20, g21, g22, g23, g24, g25, g26, g27, g28, g29, g30, g31])) :: bX11 a1 uq kq q_q []) hP hD
          exact J85 o82 H _ ls h  hP hD hS (lv_sub hl [] rfl)
        · have h := (if_pos c72).symm.trans h
          refine lv_bipush (v := (-2)) hx hb (zat zrX12_best_0_ok 37 rfl) (by decide) ?_
          refine lv_goto (tgt := 85) hx hb (zat zrX12_best_0_ok 38 rfl) (by decide) ?_
          exact J85 (-2 : Int32) H _ ls h  (hP.sub (ws' := ((a2, .inl (cB33, 26, .inl m_v)) :: (a0, .inr (9, [.int 0, .int m_t.2.1, .int m_t.2.2, .ref a1, g7, g8, g9, g10, g11, g12, g13, g14, g15, g16, g17, .ref a2, g18, g19, g20, g21, g22, g23, g24, g25, g26, g27, g28, g29, g30, g31])) :: bX11 a1 uq kq q_q [])) [1, 0, 2, 3, 4, 5, 6, 7, 8, 9, 10, 11, 12, 13, 14, 15, 16] rfl) (hD.sub (ws' := ((a2, .inl (cB33, 26, .inl m_v)) :: (a0, .inr (9, [.int 0, .int m_t.2.1, .int m_t.2.2, .ref a1, g7, g8, g9, g10, g11, g12, g13, g14, g15, g16, g17, .ref a2, g18, g19, g20, g21, g22, g23, g24, g25, g26, g27, g28, g29, g30, g31])) :: bX11 a1 uq kq q_q [])) [1, 0, 2, 3, 4, 5, 6, 7, 8, 9, 10, 11, 12, 13, 14, 15, 16] (by decide) rfl) hS (lv_sub hl [] rfl)
      · have h := (if_neg c35).symm.trans h
        refine lv_aload_n hx hb (zat zrX12_best_0_ok 18 rfl) rfl (lv_at hl 3 rfl) ?_
        refine lv_iload hx hb (zat zrX12_best_0_ok 19 rfl) (lv_at hl 0 rfl) ?_
        obtain ⟨o41, eo41, h⟩ := bd_of h
        refine ck_l (wc := ((a0, .inr (9, [.int 0, .int m_t.2.1, .int m_t.2.2, .ref a1, g7, g8, g9, g10, g11, g12, g13, g14, g15, g16, g17, .ref a2, g18, g19, g20, g21, g22, g23, g24, g25, g26, g27, g28, g29, g30, g31])) :: bX11 a1 uq kq q_q ([(a2, .inl (cB33, 26, .inl m_v))]))) (wr := []) hP hD hK hS hA [0, 2, 3, 4, 5, 6, 7, 8, 9, 10, 11, 12, 13, 14, 15, 16, 1] [] rfl rfl (by decide) (by decide) (by decide) (fun hPc hDc => (va_runV (As := [.int v26_l4]) (rest := []) ⟨hx, hb, hml, hown, hts⟩ (kfX12_meanOf l dC dI a0 v26_l4 a1 a2 uq kq m_v (.int 0) (.int m_t.2.1) (.int m_t.2.2) (g7) (g8) (g9) (g10) (g11) (g12) (g13) (g14) (g15) (g16) (g17) (g18) (g19) (g20) (g21) (g22) (g23) (g24) (g25) (g26) (g27) (g28) (g29) (g30) (g31) q_q cB33 H.size o41 eo41) (cwV 1 hts gfX12_best_3 rfl rfl rfl (by decide +kernel) ⟨(Nat.le_of_ble_eq_true rfl), (Nat.le_of_ble_eq_true rfl)⟩) (PV hPc (hK.sub (tys' := (tX11 kq ((cB33, .int) :: []))) [0, 1, 2, 3, 4, 5, 6, 7, 8, 9, 10, 11, 12, 13, 14] rfl) hDc hN 0 rfl rfl) rfl rfl hl.1 rfl (lv_room (Nat.le_of_ble_eq_true rfl)) (zat zrX12_best_0_ok 20 rfl) ⟨(Nat.le_of_ble_eq_true rfl), (Nat.le_of_ble_eq_true rfl)⟩)) (fun r41 _ H locs hw hP hD _ hS => ?_)
        obtain rfl := hw.symm
        obtain ⟨hP, hD⟩ := pd_mk ((a0, .inr (9, [.int 0, .int m_t.2.1, .int m_t.2.2, .ref a1, g7, g8, g9, g10, g11, g12, g13, g14, g15, g16, g17, .ref a2, g18, g19, g20, g21, g22, g23, g24, g25, g26, g27, g28, g29, g30, g31])) :: bX11 a1 uq kq q_q ([(a2, .inl (cB33, 26, .inl m_v))])) hP hD
        refine lv_lload_n hx hb (zat zrX12_best_0_ok 21 rfl) rfl (lv_at hl 1 rfl) ?_
        refine W.lcmp hx hb (zat zrX12_best_0_ok 22 rfl) ?_
        have J62 : ∀ (v62_l1 : Int32) (v62_l2 : Int64) (H : Heap) (locs : List Loc) (ls : Array Slot), f_X12_best_J62 (f_X12_best_L26 m_t m_v q_q n26) v26_l4 v62_l1 v62_l2 = some out → va_P (dC, dI) vwCl ((a0, .inr (9, [.int 0, .int m_t.2.1, .int m_t.2.2, .ref a1, g7, g8, g9, g10, g11, g12, g13, g14, g15, g16, g17, .ref a2, g18, g19, g20, g21, g22, g23, g24, g25, g26, g27, g28, g29, g30, g31])) :: bX11 a1 uq kq q_q ([(a2, .inl (cB33, 26, .inl m_v))])) H → va_D A ((a0, .inr (9, [.int 0, .int m_t.2.1, .int m_t.2.2, .ref a1, g7, g8, g9, g10, g11, g12, g13, g14, g15, g16, g17, .ref a2, g18, g19, g20, g21, g22, g23, g24, g25, g26, g27, g28, g29, g30, g31])) :: bX11 a1 uq kq q_q ([(a2, .inl (cB33, 26, .inl m_v))])) → va_S A s.heap H locs → lv_has ls 5 [(1, .int v62_l1), (2, .long v62_l2), (4, .int v26_l4), (0, .ref a0)] → W p l e (headSpec vfX12_best { frames := 6, cells := 0, slots := 0, locals := 142 }).room s m ([.ref a0]).toArray below meth c H locs 0 0 QQ (F0 m 62 ls []) := by
          intro v62_l1 v62_l2 H locs ls h  hP hD hS hl
          rw [f_X12_best_J62] at h
          refine lv_iinc (v := (v26_l4 + (1 : Int32))) (lv' := [(4, .int (v26_l4 + (1 : Int32))), (1, .int v62_l1), (2, .long v62_l2), (0, .ref a0)]) hx hb (zat zrX12_best_0_ok 31 rfl) hl (k := 2) rfl rfl (by decide) rfl (fun ls hl => ?_)
          refine lv_goto (tgt := 26) hx hb (zat zrX12_best_0_ok 32 rfl) (by decide) ?_
          exact ih26 (v26_l4 + (1 : Int32)) v62_l2 v62_l1 H _ ls h  hP hD hS (lv_sub hl [0, 2, 1, 3] rfl)
        refine lv_if_gt (tgt := 52) hx hb (zat zrX12_best_0_ok 23 rfl) (by decide) (fun c46 => ?_) (fun c46 => ?_)
        · have h := (if_pos c46).symm.trans h
          refine lv_aload_n hx hb (zat zrX12_best_0_ok 25 rfl) rfl (lv_at hl 3 rfl) ?_
          refine lv_iload hx hb (zat zrX12_best_0_ok 26 rfl) (lv_at hl 0 rfl) ?_
          obtain ⟨o55, eo55, h⟩ := bd_of h
          refine ck_l (wc := ((a0, .inr (9, [.int 0, .int m_t.2.1, .int m_t.2.2, .ref a1, g7, g8, g9, g10, g11, g12, g13, g14, g15, g16, g17, .ref a2, g18, g19, g20, g21, g22, g23, g24, g25, g26, g27, g28, g29, g30, g31])) :: bX11 a1 uq kq q_q ([(a2, .inl (cB33, 26, .inl m_v))]))) (wr := []) hP hD hK hS hA [0, 1, 2, 3, 4, 5, 6, 7, 8, 9, 10, 11, 12, 13, 14, 15, 16] [] rfl rfl (by decide) (by decide) (by decide) (fun hPc hDc => (va_runV (As := [.int v26_l4]) (rest := []) ⟨hx, hb, hml, hown, hts⟩ (kfX12_meanOf l dC dI a0 v26_l4 a1 a2 uq kq m_v (.int 0) (.int m_t.2.1) (.int m_t.2.2) (g7) (g8) (g9) (g10) (g11) (g12) (g13) (g14) (g15) (g16) (g17) (g18) (g19) (g20) (g21) (g22) (g23) (g24) (g25) (g26) (g27) (g28) (g29) (g30) (g31) q_q cB33 H.size o55 eo55) (cwV 1 hts gfX12_best_3 rfl rfl rfl (by decide +kernel) ⟨(Nat.le_of_ble_eq_true rfl), (Nat.le_of_ble_eq_true rfl)⟩) (PV hPc (hK.sub (tys' := (tX11 kq ((cB33, .int) :: []))) [0, 1, 2, 3, 4, 5, 6, 7, 8, 9, 10, 11, 12, 13, 14] rfl) hDc hN 0 rfl rfl) rfl rfl hl.1 rfl (lv_room (Nat.le_of_ble_eq_true rfl)) (zat zrX12_best_0_ok 27 rfl) ⟨(Nat.le_of_ble_eq_true rfl), (Nat.le_of_ble_eq_true rfl)⟩)) (fun r55 _ H locs hw hP hD _ hS => ?_)
          obtain rfl := hw.symm
          obtain ⟨hP, hD⟩ := pd_mk ((a0, .inr (9, [.int 0, .int m_t.2.1, .int m_t.2.2, .ref a1, g7, g8, g9, g10, g11, g12, g13, g14, g15, g16, g17, .ref a2, g18, g19, g20, g21, g22, g23, g24, g25, g26, g27, g28, g29, g30, g31])) :: bX11 a1 uq kq q_q ([(a2, .inl (cB33, 26, .inl m_v))])) hP hD
          refine lv_lstore_n (lv' := [(2, .long o55), (4, .int v26_l4), (1, .int v26_l1), (0, .ref a0)]) hx hb (zat zrX12_best_0_ok 28 rfl) rfl hl (by decide) rfl (fun ls hl => ?_)
          refine lv_iload hx hb (zat zrX12_best_0_ok 29 rfl) (lv_at hl 1 rfl) ?_
          refine lv_istore_n (lv' := [(1, .int v26_l4), (2, .long o55), (4, .int v26_l4), (0, .ref a0)]) hx hb (zat zrX12_best_0_ok 30 rfl) rfl hl (by decide) rfl (fun ls hl => ?_)
          exact J62 v26_l4 o55 H _ ls h  hP hD hS (lv_sub hl [0, 1, 2, 3] rfl)
        · have h := (if_neg c46).symm.trans h
          refine lv_goto (tgt := 62) hx hb (zat zrX12_best_0_ok 24 rfl) (by decide) ?_
          exact J62 v26_l1 v26_l2 H _ ls h  hP hD hS (lv_sub hl [2, 1, 0, 3] rfl)
  exact L26 FU (0 : Int32) (0 : Int64) (-2 : Int32) H _ ls h  hP hD hS (lv_sub hl [0, 1, 2, 3] rfl)
noncomputable def zrX12_bestBait_0 : List ZR := zc 0 true (.aload_n 0) 1 (zc 1 true (.iconst 0) 1 (zc 2 true (.putfield 36) 3 (zc 5 true (.aload_n 0) 1 (zc 6 true (.getfield 299) 3 (zc 9 true (.ifnonnull 9) 3 (zc 12 false (.nop) 6 (zc 18 true (.iconst 0) 1 (zc 19 true (.istore_n 1) 1 (zc 20 true (.iconst (-1)) 1 (zc 21 true (.istore_n 2) 1 (zc 22 true (.iconst 0) 1 (zc 23 true (.istore_n 3) 1 (zc 24 true (.iload_n 3) 1 (zc 25 true (.aload_n 0) 1 (zc 26 true (.getfield 299) 3 (zc 29 true (.getfield 175) 3 (zc 32 true (.if_icmp .ge 83) 3 (zc 35 true (.iconst 0) 1 (zc 36 true (.istore 4) 2 (zc 38 true (.iconst 0) 1 (zc 39 true (.istore 5) 2 (zc 41 true (.iload 5) 2 (zc 43 true (.aload_n 0) 1 (zc 44 true (.getfield 299) 3 (zc 47 true (.getfield 231) 3 (zc 50 true (.if_icmp .ge 45) 3 (zc 53 true (.iload 4) 2 (zc 55 true (.aload_n 0) 1 (zc 56 true (.getfield 17) 3 (zc 59 true (.iconst 0) 1 (zc 60 true (.iload 5) 2 (zc 62 true (.iadd) 1 (zc 63 true (.iaload) 1 (zc 64 true (.ifCond .ne 21) 3 (zc 67 true (.aload_n 0) 1 (zc 68 true (.getfield 299) 3 (zc 71 true (.getfield 265) 3 (zc 74 true (.iload 5) 2 (zc 76 true (.iaload) 1 (zc 77 true (.iload_n 3) 1 (zc 78 true (.if_icmp .ne 7) 3 (zc 81 true (.iconst 1) 1 (zc 82 true (.goto 4) 3 (zc 85 true (.iconst 0) 1 (zc 86 true (.iadd) 1 (zc 87 true (.istore 4) 2 (zc 89 true (.iinc 5 1) 3 (zc 92 true (.goto (-51)) 3 (zc 95 true (.iload 4) 2 (zc 97 true (.iload_n 2) 1 (zc 98 true (.if_icmp .gt 6) 3 (zc 101 true (.goto 8) 3 (zc 104 true (.iload 4) 2 (zc 106 true (.istore_n 2) 1 (zc 107 true (.iload_n 3) 1 (zc 108 true (.istore_n 1) 1 (zc 109 true (.iinc 3 1) 3 (zc 112 true (.goto (-88)) 3 (zc 115 true (.aload_n 0) 1 (zc 116 true (.iload_n 1) 1 (zc 117 true (.invokevirtual 46) 3 (zc 120 true (.ireturn) 1 ([])))))))))))))))))))))))))))))))))))))))))))))))))))))))))))))))
theorem zrX12_bestBait_0_ok : zck 0 ((zby cX12_bestBait).drop 0) zrX12_bestBait_0 = true := by decide +kernel
def vfX12_bestBait : List Cond := List.cons (.code yX12_bestBait cX12_bestBait 6 (some .int)) (apW [.fieldLink RX12 36 "HookPierModel" "thrown" "I", .fieldLink RX12 299 "HookPierModel" "pier" "LHookPierModel$Pier;", .methodLink RX12 46 yX12_good, .instanceMethod yX12_good, .selects RX12 yX12_good yX12_good, .initialized RX12, .fieldLink RX12 17 "HookPierModel" "v" "[I"] (apW wsX120 (apW wsX110 (vfX12_good))))
theorem ifX12_bestBait_X12 : ∀ w ∈ wsX120, w ∈ vfX12_bestBait := fun _ h => (List.mem_cons_of_mem _ (List.mem_append_right _ (List.mem_append_left _ h)))
theorem ifX12_bestBait_X11 : ∀ w ∈ wsX110, w ∈ vfX12_bestBait := fun _ h => (List.mem_cons_of_mem _ (List.mem_append_right _ (List.mem_append_right _ (List.mem_append_left _ h))))
theorem qfX12_bestBait : Good vfX12_bestBait := gd_cons (by decide +kernel) (gd_app (gd_dec (by decide +kernel) : Good [.fieldLink RX12 36 "HookPierModel" "thrown" "I", .fieldLink RX12 299 "HookPierModel" "pier" "LHookPierModel$Pier;", .methodLink RX12 46 yX12_good, .instanceMethod yX12_good, .selects RX12 yX12_good yX12_good, .initialized RX12, .fieldLink RX12 17 "HookPierModel" "v" "[I"]) (gd_app qsX12 (gd_app qsX11 qfX12_good)))
theorem gfX12_bestBait_0 : GoodIn vfX12_bestBait (wsV RX12 46 RX12 yX12_good vfX12_good) := goodIn_app (goodIn_r [.methodLink RX12 46 yX12_good, .instanceMethod yX12_good, .selects RX12 yX12_good yX12_good, .initialized RX12] [3, 4, 5, 6] rfl (by decide +kernel)) (goodIn_m (fun _ h => (List.mem_cons_of_mem _ (List.mem_append_right _ (List.mem_append_right _ (List.mem_append_right _ h))))) qfX12_good)
set_option maxHeartbeats 2000000 in
set_option maxRecDepth 100000 in
theorem kfX12_bestBait (l : Launch) (dC : Nat → ClassId) (dI : Nat → Nat → Nat) (a0 : Nat) (a1 : Nat) (a2 : Nat) (uq : Nat → Nat) (kq : Nat → ClassId) (m_t : TX12_t) (m_v : TX12_v) (g7 : Value) (g8 : Value) (g9 : Value) (g10 : Value) (g11 : Value) (g12 : Value) (g13 : Value) (g14 : Value) (g15 : Value) (g16 : Value) (g17 : Value) (g18 : Value) (g19 : Value) (g20 : Value) (g21 : Value) (g22 : Value) (g23 : Value) (g24 : Value) (g25 : Value) (g26 : Value) (g27 : Value) (g28 : Value) (g29 : Value) (g30 : Value) (g31 : Value) (q_q : TX11_q) (cB33 : ClassId) (sz : Nat) (out : (Int32 × TX12_t)) (h : f_X12_bestBait m_t m_v q_q = some out) : KCi l yX12_bestBait vfX12_bestBait ({ frames := 1, cells := 0, slots := 0, locals := 21 }) (dC, dI) [.ref a0] sz ((a0, .inr (9, [.int m_t.1, .int m_t.2.1, .int m_t.2.2, .ref a1, g7, g8, g9, g10, g11, g12, g13, g14, g15, g16, g17, .ref a2, g18, g19, g20, g21, g22, g23, g24, g25, g26, g27, g28, g29, g30, g31])) :: bX11 a1 uq kq q_q ([(a2, .inl (cB33, 26, .inl m_v))])) (tX11 kq ((cB33, .int) :: [])) (fun (r : Int32) _ => r = out.1) ((a0, .inr (9, [.int out.2.1, .int out.2.2.1, .int out.2.2.2, .ref a1, g7, g8, g9, g10, g11, g12, g13, g14, g15, g16, g17, .ref a2, g18, g19, g20, g21, g22, g23, g24, g25, g26, g27, g28, g29, g30, g31])) :: bX11 a1 uq kq q_q ([(a2, .inl (cB33, 26, .inl m_v))])) 0 0 := by
  refine Met.ofW (cc := cX12_bestBait) (maxL := 6) (ret := (some .int)) (by decide) rfl ?_
  intro p e s m args below meth c s₁ B0 hml hv
  obtain ⟨rfl, hsz, hP, hK, hD0, hN⟩ := hv
  have hx := B0.exec
  have hb := B0.bytes
  have hr := B0.returns
  have hts := atoms_spec (ws := vfX12_bestBait) B0.pre
  have hown : s.vm.findClass RX12 = some m.cls := findClass_of_methodNamed B0.named
  have hlocks := B0.notSynchronized
  subst hsz
  have hD := hD0.self (sz := s.heap.size)
  generalize hAe : va_A ((a0, .inr (9, [.int m_t.1, .int m_t.2.1, .int m_t.2.2, .ref a1, g7, g8, g9, g10, g11, g12, g13, g14, g15, g16, g17, .ref a2, g18, g19, g20, g21, g22, g23, g24, g25, g26, g27, g28, g29, g30, g31])) :: bX11 a1 uq kq q_q ([(a2, .inl (cB33, 26, .inl m_v))])) s.heap.size = A at hD ⊢
  have hA : ∀ q : Nat, s.heap.size ≤ q → A q := fun q h => by rw [← hAe]; exact Or.inr h
  have hS : va_S A s.heap s.heap [] := va_S.rf
  have hP : va_P (dC, dI) vwCl ((a0, .inr (9, [.int m_t.1, .int m_t.2.1, .int m_t.2.2, .ref a1, g7, g8, g9, g10, g11, g12, g13, g14, g15, g16, g17, .ref a2, g18, g19, g20, g21, g22, g23, g24, g25, g26, g27, g28, g29, g30, g31])) :: bX11 a1 uq kq q_q ([(a2, .inl (cB33, 26, .inl m_v))])) s.heap := hP
  have hl := lv_entry ([.ref a0]) (n := 6) (Nat.le_of_ble_eq_true rfl)
  rw [lg_entry_eq]
  generalize (lg_sl ([.ref a0]) ++ List.replicate (6 - (lg_sl ([.ref a0])).length) Slot.unset).toArray = ls at hl ⊢
  have hl : lv_has ls 6 [(0, .ref a0)] := hl
  refine W_q (fun QQ hQQ => ?_)
  rw [f_X12_bestBait] at h
  refine lv_aload_n hx hb (zat zrX12_bestBait_0_ok 0 rfl) rfl (lv_at hl 0 rfl) ?_
  refine lv_iconst (v := 0) hx hb (zat zrX12_bestBait_0_ok 1 rfl) (by decide) ?_
  refine va_put (D := (dC, dI)) (ci := 9) (v := .int 0) (ty := .int) (C := RX12) (T := TX12) (N := 30) hx hb hts ifX12_bestBait_X12 tyX12 tyX12_ok nmX12 hown hK hP hD hS 0 rfl rfl 0 (by decide) (hts (.fieldLink RX12 36 "HookPierModel" "thrown" "I") (List.mem_of_getElem? (i := 1) rfl)) (fun _ h9 => h9) rfl (by decide +kernel) rfl rfl (Nat.le_of_ble_eq_true rfl) (zat zrX12_bestBait_0_ok 2 rfl) (fun H locs hP hD hS => ?_)
  obtain ⟨hP, hD⟩ := pd_mk ((a0, .inr (9, [.int 0, .int m_t.2.1, .int m_t.2.2, .ref a1, g7, g8, g9, g10, g11, g12, g13, g14, g15, g16, g17, .ref a2, g18, g19, g20, g21, g22, g23, g24, g25, g26, g27, g28, g29, g30, g31])) :: bX11 a1 uq kq q_q ([(a2, .inl (cB33, 26, .inl m_v))])) hP hD
  refine lv_aload_n hx hb (zat zrX12_bestBait_0_ok 3 rfl) rfl (lv_at hl 0 rfl) ?_
  refine va_get (D := (dC, dI)) (ci := 9) (v := .ref a1) (C := RX12) (T := TX12) (N := 30) hx hb hts ifX12_bestBait_X12 hown hK hP 0 rfl rfl 3 (by decide) (hts (.fieldLink RX12 299 "HookPierModel" "pier" "LHookPierModel$Pier;") (List.mem_of_getElem? (i := 2) rfl)) (fun _ h9 => h9) rfl (zat zrX12_bestBait_0_ok 4 rfl) ?_
  refine lv_ifnonnull (tgt := 18) hx hb (zat zrX12_bestBait_0_ok 5 rfl) (by decide) ?_
  refine lv_iconst (v := 0) hx hb (zat zrX12_bestBait_0_ok 7 rfl) (by decide) ?_
  refine lv_istore_n (lv' := [(1, .int 0), (0, .ref a0)]) hx hb (zat zrX12_bestBait_0_ok 8 rfl) rfl hl (by decide) rfl (fun ls hl => ?_)
  refine lv_iconst (v := (-1)) hx hb (zat zrX12_bestBait_0_ok 9 rfl) (by decide) ?_
  refine lv_istore_n (lv' := [(2, .int (-1)), (1, .int 0), (0, .ref a0)]) hx hb (zat zrX12_bestBait_0_ok 10 rfl) rfl hl (by decide) rfl (fun ls hl => ?_)
  refine lv_iconst (v := 0) hx hb (zat zrX12_bestBait_0_ok 11 rfl) (by decide) ?_
  refine lv_istore_n (lv' := [(3, .int 0), (2, .int (-1)), (1, .int 0), (0, .ref a0)]) hx hb (zat zrX12_bestBait_0_ok 12 rfl) rfl hl (by decide) rfl (fun ls hl => ?_)
  have L24 : ∀ (n24 : Nat) (v24_l3 : Int32) (v24_l2 : Int32) (v24_l1 : Int32) (H : Heap) (locs : List Loc) (ls : Array Slot), f_X12_bestBait_L24 m_t m_v q_q n24 v24_l3 v24_l2 v24_l1 = some out → va_P (dC, dI) vwCl ((a0, .inr (9, [.int 0, .int m_t.2.1, .int m_t.2.2, .ref a1, g7, g8, g9, g10, g11, g12, g13, g14, g15, g16, g17, .ref a2, g18, g19, g20, g21, g22, g23, g24, g25, g26, g27, g28, g29, g30, g31])) :: bX11 a1 uq kq q_q ([(a2, .inl (cB33, 26, .inl m_v))])) H → va_D A ((a0, .inr (9, [.int 0, .int m_t.2.1, .int m_t.2.2, .ref a1, g7, g8, g9, g10, g11, g12, g13, g14, g15, g16, g17, .ref a2, g18, g19, g20, g21, g22, g23, g24, g25, g26, g27, g28, g29, g30, g31])) :: bX11 a1 uq kq q_q ([(a2, .inl (cB33, 26, .inl m_v))])) → va_S A s.heap H locs → lv_has ls 6 [(3, .int v24_l3), (2, .int v24_l2), (1, .int v24_l1), (0, .ref a0)] → W p l e (headSpec vfX12_bestBait { frames := 1, cells := 0, slots := 0, locals := 21 }).room s m ([.ref a0]).toArray below meth c H locs 0 0 QQ (F0 m 24 ls []) := by
    intro n24
    induction n24 with
    | zero =>
      intro v24_l3 v24_l2 v24_l1 H locs ls h  _ _ _ _
      rw [f_X12_bestBait_L24] at h
      cases h
    | succ n24 ih24 =>
      intro v24_l3 v24_l2 v24_l1 H locs ls h  hP hD hS hl
      rw [f_X12_bestBait_L24] at h
      refine lv_iload_n hx hb (zat zrX12_bestBait_0_ok 13 rfl) rfl (lv_at hl 0 rfl) ?_
      refine lv_aload_n hx hb (zat zrX12_bestBait_0_ok 14 rfl) rfl (lv_at hl 3 rfl) ?_
      refine va_get (D := (dC, dI)) (ci := 9) (v := .ref a1) (C := RX12) (T := TX12) (N := 30) hx hb hts ifX12_bestBait_X12 hown hK hP 0 rfl rfl 3 (by decide) (hts (.fieldLink RX12 299 "HookPierModel" "pier" "LHookPierModel$Pier;") (List.mem_of_getElem? (i := 2) rfl)) (fun _ h9 => h9) rfl (zat zrX12_bestBait_0_ok 15 rfl) ?_
      refine va_getN (D := (dC, dI)) (ci := 8) (v := .int q_q.2.2.2.2.1) (C := RX11) (T := TX11) (N := 24) hx hb hts ifX12_bestBait_X11 hown hK hP 1 rfl rfl 4 (by decide) (va_Nw.use rfl (hN.1 (.fieldLinkNest RX12 175 "HookPierModel$Pier" "baits" "I" "HookPierModel") (List.mem_of_getElem? (i := 26) rfl))) (fun _ h9 => h9) rfl (zat zrX12_bestBait_0_ok 16 rfl) ?_
      refine lv_icmp_ge (tgt := 115) hx hb (zat zrX12_bestBait_0_ok 17 rfl) (by decide) (fun c32 => ?_) (fun c32 => ?_)
      · have h := (if_pos c32).symm.trans h
        refine lv_aload_n hx hb (zat zrX12_bestBait_0_ok 59 rfl) rfl (lv_at hl 3 rfl) ?_
        refine lv_iload_n hx hb (zat zrX12_bestBait_0_ok 60 rfl) rfl (lv_at hl 2 rfl) ?_
        obtain ⟨o117, eo117⟩ : ∃ o, o = f_X12_good v24_l1 ((0 : Int32), m_t.2) := ⟨_, rfl⟩
        have h := nm_of h o117 eo117
        refine ck_i (wc := ([(a0, .inr (9, [.int 0, .int m_t.2.1, .int m_t.2.2, .ref a1, g7, g8, g9, g10, g11, g12, g13, g14, g15, g16, g17, .ref a2, g18, g19, g20, g21, g22, g23, g24, g25, g26, g27, g28, g29, g30, g31]))])) (wr := (bX11 a1 uq kq q_q ([(a2, .inl (cB33, 26, .inl m_v))]))) hP hD hK hS hA [0] [1, 2, 3, 4, 5, 6, 7, 8, 9, 10, 11, 12, 13, 14, 15, 16] rfl rfl (by decide) (by decide) (by decide) (fun hPc hDc => (va_runV (As := [.int v24_l1]) (rest := []) ⟨hx, hb, hml, hown, hts⟩ (kfX12_good l dC dI a0 v24_l1 ((0 : Int32), m_t.2) (.ref a1) (g7) (g8) (g9) (g10) (g11) (g12) (g13) (g14) (g15) (g16) (g17) (.ref a2) (g18) (g19) (g20) (g21) (g22) (g23) (g24) (g25) (g26) (g27) (g28) (g29) (g30) (g31) H.size o117 eo117.symm) (cwV 1 hts gfX12_bestBait_0 rfl rfl rfl (by decide +kernel) ⟨(Nat.le_of_ble_eq_true rfl), (Nat.le_of_ble_eq_true rfl)⟩) (PV hPc (hK.sub (tys' := ([])) [] rfl) hDc hN 0 rfl rfl) rfl rfl hl.1 rfl (lv_room (Nat.le_of_ble_eq_true rfl)) (zat zrX12_bestBait_0_ok 61 rfl) ⟨(Nat.le_of_ble_eq_true rfl), (Nat.le_of_ble_eq_true rfl)⟩)) (fun r117 _ H locs hw hP hD _ hS => ?_)
        obtain rfl := hw
        obtain ⟨hP, hD⟩ := pd_mk (bX11 a1 uq kq q_q ([(a2, .inl (cB33, 26, .inl m_v)), (a0, .inr (9, [.int o117.2.1, .int o117.2.2.1, .int o117.2.2.2, .ref a1, g7, g8, g9, g10, g11, g12, g13, g14, g15, g16, g17, .ref a2, g18, g19, g20, g21, g22, g23, g24, g25, g26, g27, g28, g29, g30, g31]))])) hP hD
        obtain rfl := Option.some.inj h
        obtain ⟨hP9, hD9⟩ := pd_sub ((a0, .inr (9, [.int o117.2.1, .int o117.2.2.1, .int o117.2.2.2, .ref a1, g7, g8, g9, g10, g11, g12, g13, g14, g15, g16, g17, .ref a2, g18, g19, g20, g21, g22, g23, g24, g25, g26, g27, g28, g29, g30, g31])) :: bX11 a1 uq kq q_q ([(a2, .inl (cB33, 26, .inl m_v))])) [16, 0, 1, 2, 3, 4, 5, 6, 7, 8, 9, 10, 11, 12, 13, 14, 15] hP hD (by decide) rfl
        have hK9 := hK.sub (tys' := []) [] rfl
        rw [hQQ]
        exact W.iret (v := o117.1) hx hb hr (fun t ht hW => ⟨⟨o117.1, (), rfl, rfl, by rw [ht]; exact hP9, va_K.moved hW.alike hK9, hD9⟩, hS.F ht⟩) hS.2.2 (zat zrX12_bestBait_0_ok 62 rfl)
      · have h := (if_neg c32).symm.trans h
        refine lv_iconst (v := 0) hx hb (zat zrX12_bestBait_0_ok 18 rfl) (by decide) ?_
        refine lv_istore (lv' := [(4, .int 0), (3, .int v24_l3), (2, .int v24_l2), (1, .int v24_l1), (0, .ref a0)]) hx hb (zat zrX12_bestBait_0_ok 19 rfl) hl (by decide) rfl (fun ls hl => ?_)
        refine lv_iconst (v := 0) hx hb (zat zrX12_bestBait_0_ok 20 rfl) (by decide) ?_
        refine lv_istore (lv' := [(5, .int 0), (4, .int 0), (3, .int v24_l3), (2, .int v24_l2), (1, .int v24_l1), (0, .ref a0)]) hx hb (zat zrX12_bestBait_0_ok 21 rfl) hl (by decide) rfl (fun ls hl => ?_)
        have L41 : ∀ (n41 : Nat) (v41_l5 : Int32) (v41_l4 : Int32) (H : Heap) (locs : List Loc) (ls : Array Slot), f_X12_bestBait_L41 m_v q_q (f_X12_bestBait_L24 m_t m_v q_q n24) v24_l1 v24_l2 v24_l3 n41 v41_l5 v41_l4 = some out → va_P (dC, dI) vwCl ((a0, .inr (9, [.int 0, .int m_t.2.1, .int m_t.2.2, .ref a1, g7, g8, g9, g10, g11, g12, g13, g14, g15, g16, g17, .ref a2, g18, g19, g20, g21, g22, g23, g24, g25, g26, g27, g28, g29, g30, g31])) :: bX11 a1 uq kq q_q ([(a2, .inl (cB33, 26, .inl m_v))])) H → va_D A ((a0, .inr (9, [.int 0, .int m_t.2.1, .int m_t.2.2, .ref a1, g7, g8, g9, g10, g11, g12, g13, g14, g15, g16, g17, .ref a2, g18, g19, g20, g21, g22, g23, g24, g25, g26, g27, g28, g29, g30, g31])) :: bX11 a1 uq kq q_q ([(a2, .inl (cB33, 26, .inl m_v))])) → va_S A s.heap H locs → lv_has ls 6 [(5, .int v41_l5), (4, .int v41_l4), (3, .int v24_l3), (2, .int v24_l2), (1, .int v24_l1), (0, .ref a0)] → W p l e (headSpec vfX12_bestBait { frames := 1, cells := 0, slots := 0, locals := 21 }).room s m ([.ref a0]).toArray below meth c H locs 0 0 QQ (F0 m 41 ls []) := by
          intro n41
          induction n41 with
          | zero =>
            intro v41_l5 v41_l4 H locs ls h  _ _ _ _
            rw [f_X12_bestBait_L41] at h
            cases h
          | succ n41 ih41 =>
            intro v41_l5 v41_l4 H locs ls h  hP hD hS hl
            rw [f_X12_bestBait_L41] at h
            refine lv_iload hx hb (zat zrX12_bestBait_0_ok 22 rfl) (lv_at hl 0 rfl) ?_
            refine lv_aload_n hx hb (zat zrX12_bestBait_0_ok 23 rfl) rfl (lv_at hl 5 rfl) ?_
            refine va_get (D := (dC, dI)) (ci := 9) (v := .ref a1) (C := RX12) (T := TX12) (N := 30) hx hb hts ifX12_bestBait_X12 hown hK hP 0 rfl rfl 3 (by decide) (hts (.fieldLink RX12 299 "HookPierModel" "pier" "LHookPierModel$Pier;") (List.mem_of_getElem? (i := 2) rfl)) (fun _ h9 => h9) rfl (zat zrX12_bestBait_0_ok 24 rfl) ?_
            refine va_getN (D := (dC, dI)) (ci := 8) (v := .int q_q.2.2.2.2.2.2.1) (C := RX11) (T := TX11) (N := 24) hx hb hts ifX12_bestBait_X11 hown hK hP 1 rfl rfl 6 (by decide) (va_Nw.use rfl (hN.1 (.fieldLinkNest RX12 231 "HookPierModel$Pier" "answers" "I" "HookPierModel") (List.mem_of_getElem? (i := 28) rfl))) (fun _ h9 => h9) rfl (zat zrX12_bestBait_0_ok 25 rfl) ?_
            refine lv_icmp_ge (tgt := 95) hx hb (zat zrX12_bestBait_0_ok 26 rfl) (by decide) (fun c50 => ?_) (fun c50 => ?_)
            · have h := (if_pos c50).symm.trans h
              refine lv_iload hx hb (zat zrX12_bestBait_0_ok 49 rfl) (lv_at hl 1 rfl) ?_
              refine lv_iload_n hx hb (zat zrX12_bestBait_0_ok 50 rfl) rfl (lv_at hl 3 rfl) ?_
              have J109 : ∀ (v109_l1 : Int32) (v109_l2 : Int32) (H : Heap) (locs : List Loc) (ls : Array Slot), f_X12_bestBait_J109 (f_X12_bestBait_L24 m_t m_v q_q n24) v24_l3 v109_l1 v109_l2 = some out → va_P (dC, dI) vwCl ((a0, .inr (9, [.int 0, .int m_t.2.1, .int m_t.2.2, .ref a1, g7, g8, g9, g10, g11, g12, g13, g14, g15, g16, g17, .ref a2, g18, g19, g20, g21, g22, g23, g24, g25, g26, g27, g28, g29, g30, g31])) :: bX11 a1 uq kq q_q ([(a2, .inl (cB33, 26, .inl m_v))])) H → va_D A ((a0, .inr (9, [.int 0, .int m_t.2.1, .int m_t.2.2, .ref a1, g7, g8, g9, g10, g11, g12, g13, g14, g15, g16, g17, .ref a2, g18, g19, g20, g21, g22, g23, g24, g25, g26, g27, g28, g29, g30, g31])) :: bX11 a1 uq kq q_q ([(a2, .inl (cB33, 26, .inl m_v))])) → va_S A s.heap H locs → lv_has ls 6 [(1, .int v109_l1), (2, .int v109_l2), (3, .int v24_l3), (0, .ref a0)] → W p l e (headSpec vfX12_bestBait { frames := 1, cells := 0, slots := 0, locals := 21 }).room s m ([.ref a0]).toArray below meth c H locs 0 0 QQ (F0 m 109 ls []) := by
                intro v109_l1 v109_l2 H locs ls h  hP hD hS hl
                rw [f_X12_bestBait_J109] at h
                refine lv_iinc (v := (v24_l3 + (1 : Int32))) (lv' := [(3, .int (v24_l3 + (1 : Int32))), (1, .int v109_l1), (2, .int v109_l2), (0, .ref a0)]) hx hb (zat zrX12_bestBait_0_ok 57 rfl) hl (k := 2) rfl rfl (by decide) rfl (fun ls hl => ?_)
                refine lv_goto (tgt := 24) hx hb (zat zrX12_bestBait_0_ok 58 rfl) (by decide) ?_
                exact ih24 (v24_l3 + (1 : Int32)) v109_l2 v109_l1 H _ ls h  hP hD hS (lv_sub hl [0, 2, 1, 3] rfl)
              refine lv_icmp_gt (tgt := 104) hx hb (zat zrX12_bestBait_0_ok 51 rfl) (by decide) (fun c98 => ?_) (fun c98 => ?_)
              · have h := (if_pos c98).symm.trans h
                refine lv_iload hx hb (zat zrX12_bestBait_0_ok 53 rfl) (lv_at hl 1 rfl) ?_
                refine lv_istore_n (lv' := [(2, .int v41_l4), (5, .int v41_l5), (4, .int v41_l4), (3, .int v24_l3), (1, .int v24_l1), (0, .ref a0)]) hx hb (zat zrX12_bestBait_0_ok 54 rfl) rfl hl (by decide) rfl (fun ls hl => ?_)
                refine lv_iload_n hx hb (zat zrX12_bestBait_0_ok 55 rfl) rfl (lv_at hl 3 rfl) ?_
                refine lv_istore_n (lv' := [(1, .int v24_l3), (2, .int v41_l4), (5, .int v41_l5), (4, .int v41_l4), (3, .int v24_l3), (0, .ref a0)]) hx hb (zat zrX12_bestBait_0_ok 56 rfl) rfl hl (by decide) rfl (fun ls hl => ?_)
                exact J109 v24_l3 v41_l4 H _ ls h  hP hD hS (lv_sub hl [0, 1, 4, 5] rfl)
              · have h := (if_neg c98).symm.trans h
                refine lv_goto (tgt := 109) hx hb (zat zrX12_bestBait_0_ok 52 rfl) (by decide) ?_
                exact J109 v24_l1 v24_l2 H _ ls h  hP hD hS (lv_sub hl [4, 3, 2, 5] rfl)
            · have h := (if_neg c50).symm.trans h
              refine lv_iload hx hb (zat zrX12_bestBait_0_ok 27 rfl) (lv_at hl 1 rfl) ?_
              refine lv_aload_n hx hb (zat zrX12_bestBait_0_ok 28 rfl) rfl (lv_at hl 5 rfl) ?_
              refine va_get (D := (dC, dI)) (ci := 9) (v := .ref a2) (C := RX12) (T := TX12) (N := 30) hx hb hts ifX12_bestBait_X12 hown hK hP 0 rfl rfl 15 (by decide) (hts (.fieldLink RX12 17 "HookPierModel" "v" "[I") (List.mem_of_getElem? (i := 7) rfl)) (fun _ h9 => h9) rfl (zat zrX12_bestBait_0_ok 29 rfl) ?_
              refine lv_iconst (v := 0) hx hb (zat zrX12_bestBait_0_ok 30 rfl) (by decide) ?_
              refine lv_iload hx hb (zat zrX12_bestBait_0_ok 31 rfl) (lv_at hl 0 rfl) ?_
              refine lv_iadd hx hb (zat zrX12_bestBait_0_ok 32 rfl) ?_
              obtain ⟨hg63, h⟩ := gA_of h
              refine va_iald hx hb hK hP 16 14 rfl rfl hg63 (zat zrX12_bestBait_0_ok 33 rfl) ?_
              have J86 : ∀ (v86_t1 : Int32) (H : Heap) (locs : List Loc) (ls : Array Slot), f_X12_bestBait_J86 (f_X12_bestBait_L41 m_v q_q (f_X12_bestBait_L24 m_t m_v q_q n24) v24_l1 v24_l2 v24_l3 n41) v41_l4 v41_l5 v86_t1 = some out → 0 ≤ v86_t1.toInt ∧ v86_t1.toInt ≤ 1 → va_P (dC, dI) vwCl ((a0, .inr (9, [.int 0, .int m_t.2.1, .int m_t.2.2, .ref a1, g7, g8, g9, g10, g11, g12, g13, g14, g15, g16, g17, .ref a2, g18, g19, g20, g21, g22, g23, g24, g25, g26, g27, g28, g29, g30, g31])) :: bX11 a1 uq kq q_q ([(a2, .inl (cB33, 26, .inl m_v))])) H → va_D A ((a0, .inr (9, [.int 0, .int m_t.2.1, .int m_t.2.2, .ref a1, g7, g8, g9, g10, g11, g12, g13, g14, g15, g16, g17, .ref a2, g18, g19, g20, g21, g22, g23, g24, g25, g26, g27, g28, g29, g30, g31])) :: bX11 a1 uq kq q_q ([(a2, .inl (cB33, 26, .inl m_v))])) → va_S A s.heap H locs → lv_has ls 6 [(5, .int v41_l5), (3, .int v24_l3), (2, .int v24_l2), (1, .int v24_l1), (0, .ref a0)] → W p l e (headSpec vfX12_bestBait { frames := 1, cells := 0, slots := 0, locals := 21 }).room s m ([.ref a0]).toArray below meth c H locs 0 0 QQ (F0 m 86 ls [.int v86_t1, .int v41_l4]) := by
                intro v86_t1 H locs ls h zb_v86_t1 hP hD hS hl
                rw [f_X12_bestBait_J86] at h
                refine lv_iadd hx hb (zat zrX12_bestBait_0_ok 45 rfl) ?_
                refine lv_istore (lv' := [(4, .int (v41_l4 + v86_t1)), (5, .int v41_l5), (3, .int v24_l3), (2, .int v24_l2), (1, .int v24_l1), (0, .ref a0)]) hx hb (zat zrX12_bestBait_0_ok 46 rfl) hl (by decide) rfl (fun ls hl => ?_)
                refine lv_iinc (v := (v41_l5 + (1 : Int32))) (lv' := [(5, .int (v41_l5 + (1 : Int32))), (4, .int (v41_l4 + v86_t1)), (3, .int v24_l3), (2, .int v24_l2), (1, .int v24_l1), (0, .ref a0)]) hx hb (zat zrX12_bestBait_0_ok 47 rfl) hl (k := 1) rfl rfl (by decide) rfl (fun ls hl => ?_)
                refine lv_goto (tgt := 41) hx hb (zat zrX12_bestBait_0_ok 48 rfl) (by decide) ?_
                exact ih41 (v41_l5 + (1 : Int32)) (v41_l4 + v86_t1) H _ ls h  hP hD hS (lv_sub hl [0, 1, 2, 3, 4, 5] rfl)
              have J85 : ∀ (H : Heap) (locs : List Loc) (ls : Array Slot), f_X12_bestBait_J85 (f_X12_bestBait_L41 m_v q_q (f_X12_bestBait_L24 m_t m_v q_q n24) v24_l1 v24_l2 v24_l3 n41) v41_l4 v41_l5 = some out → va_P (dC, dI) vwCl ((a0, .inr (9, [.int 0, .int m_t.2.1, .int m_t.2.2, .ref a1, g7, g8, g9, g10, g11, g12, g13, g14, g15, g16, g17, .ref a2, g18, g19, g20, g21, g22, g23, g24, g25, g26, g27, g28, g29, g30, g31])) :: bX11 a1 uq kq q_q ([(a2, .inl (cB33, 26, .inl m_v))])) H → va_D A ((a0, .inr (9, [.int 0, .int m_t.2.1, .int m_t.2.2, .ref a1, g7, g8, g9, g10, g11, g12, g13, g14, g15, g16, g17, .ref a2, g18, g19, g20, g21, g22, g23, g24, g25, g26, g27, g28, g29, g30, g31])) :: bX11 a1 uq kq q_q ([(a2, .inl (cB33, 26, .inl m_v))])) → va_S A s.heap H locs → lv_has ls 6 [(5, .int v41_l5), (3, .int v24_l3), (2, .int v24_l2), (1, .int v24_l1), (0, .ref a0)] → W p l e (headSpec vfX12_bestBait { frames := 1, cells := 0, slots := 0, locals := 21 }).room s m ([.ref a0]).toArray below meth c H locs 0 0 QQ (F0 m 85 ls [.int v41_l4]) := by
                intro  H locs ls h  hP hD hS hl
                rw [f_X12_bestBait_J85] at h
                refine lv_iconst (v := 0) hx hb (zat zrX12_bestBait_0_ok 44 rfl) (by decide) ?_
                exact J86 (0 : Int32) H _ ls h (by decide) hP hD hS (lv_sub hl [0, 1, 2, 3, 4] rfl)
              refine lv_if_ne (tgt := 85) hx hb (zat zrX12_bestBait_0_ok 34 rfl) (by decide) (fun c64 => ?_) (fun c64 => ?_)
              · have h := (if_neg c64).symm.trans h
                exact J85  H _ ls h  hP hD hS (lv_sub hl [0, 2, 3, 4, 5] rfl)
              · have h := (if_pos c64).symm.trans h
                refine lv_aload_n hx hb (zat zrX12_bestBait_0_ok 35 rfl) rfl (lv_at hl 5 rfl) ?_
                refine va_get (D := (dC, dI)) (ci := 9) (v := .ref a1) (C := RX12) (T := TX12) (N := 30) hx hb hts ifX12_bestBait_X12 hown hK hP 0 rfl rfl 3 (by decide) (hts (.fieldLink RX12 299 "HookPierModel" "pier" "LHookPierModel$Pier;") (List.mem_of_getElem? (i := 2) rfl)) (fun _ h9 => h9) rfl (zat zrX12_bestBait_0_ok 36 rfl) ?_
                refine va_getN (D := (dC, dI)) (ci := 8) (v := .ref (uq 5)) (C := RX11) (T := TX11) (N := 24) hx hb hts ifX12_bestBait_X11 hown hK hP 1 rfl rfl 15 (by decide) (va_Nw.use rfl (hN.1 (.fieldLinkNest RX12 265 "HookPierModel$Pier" "likes" "[I" "HookPierModel") (List.mem_of_getElem? (i := 37) rfl))) (fun _ h9 => h9) rfl (zat zrX12_bestBait_0_ok 37 rfl) ?_
                refine lv_iload hx hb (zat zrX12_bestBait_0_ok 38 rfl) (lv_at hl 0 rfl) ?_
                obtain ⟨hg76, h⟩ := gA_of h
                refine va_iald hx hb hK hP 7 5 rfl rfl hg76 (zat zrX12_bestBait_0_ok 39 rfl) ?_
                refine lv_iload_n hx hb (zat zrX12_bestBait_0_ok 40 rfl) rfl (lv_at hl 2 rfl) ?_
                refine lv_icmp_ne (tgt := 85) hx hb (zat zrX12_bestBait_0_ok 41 rfl) (by decide) (fun c78 => ?_) (fun c78 => ?_)
                · have h := (if_neg c78).symm.trans h
                  exact J85  H _ ls h  hP hD hS (lv_sub hl [0, 2, 3, 4, 5] rfl)
                · have h := (if_pos c78).symm.trans h
                  refine lv_iconst (v := 1) hx hb (zat zrX12_bestBait_0_ok 42 rfl) (by decide) ?_
                  refine lv_goto (tgt := 86) hx hb (zat zrX12_bestBait_0_ok 43 rfl) (by decide) ?_
                  exact J86 (1 : Int32) H _ ls h (by decide) hP hD hS (lv_sub hl [0, 2, 3, 4, 5] rfl)
        exact L41 FU (0 : Int32) (0 : Int32) H _ ls h  hP hD hS (lv_sub hl [0, 1, 2, 3, 4, 5] rfl)
  exact L24 FU (0 : Int32) (-1 : Int32) (0 : Int32) H _ ls h  hP hD hS (lv_sub hl [0, 1, 2, 3] rfl)
noncomputable def zrX12_hungerFor_0 : List ZR := zc 0 true (.aload_n 0) 1 (zc 1 true (.iconst 0) 1 (zc 2 true (.putfield 36) 3 (zc 5 true (.aload_n 0) 1 (zc 6 true (.aload_n 0) 1 (zc 7 true (.iload_n 1) 1 (zc 8 true (.invokevirtual 320) 3 (zc 11 true (.iload_n 2) 1 (zc 12 true (.iload_n 3) 1 (zc 13 true (.iload 4) 2 (zc 15 true (.invokevirtual 353) 3 (zc 18 true (.istore 5) 2 (zc 20 true (.iload 5) 2 (zc 22 true (.ifCond .le 10) 3 (zc 25 true (.aload_n 0) 1 (zc 26 true (.iload 5) 2 (zc 28 true (.invokevirtual 42) 3 (zc 31 true (.ireturn) 1 (zc 32 true (.iconst 0) 1 (zc 33 true (.istore 6) 2 (zc 35 true (.iload 6) 2 (zc 37 true (.bipush 99) 2 (zc 39 true (.if_icmp .gt 35) 3 (zc 42 true (.aload_n 0) 1 (zc 43 true (.getfield 299) 3 (zc 46 true (.iload 6) 2 (zc 48 true (.iload_n 1) 1 (zc 49 true (.iload_n 2) 1 (zc 50 true (.iload_n 3) 1 (zc 51 true (.iload 4) 2 (zc 53 true (.invokevirtual 386) 3 (zc 56 true (.bipush 50) 2 (zc 58 true (.if_icmp .lt 10) 3 (zc 61 true (.aload_n 0) 1 (zc 62 true (.iload 6) 2 (zc 64 true (.invokevirtual 46) 3 (zc 67 true (.ireturn) 1 (zc 68 true (.iinc 6 1) 3 (zc 71 true (.goto (-36)) 3 (zc 74 true (.aload_n 0) 1 (zc 75 true (.bipush (-2)) 2 (zc 77 true (.invokevirtual 46) 3 (zc 80 true (.ireturn) 1 ([])))))))))))))))))))))))))))))))))))))))))))
theorem zrX12_hungerFor_0_ok : zck 0 ((zby cX12_hungerFor).drop 0) zrX12_hungerFor_0 = true := by decide +kernel
def vfX12_hungerFor : List Cond := List.cons (.code yX12_hungerFor cX12_hungerFor 7 (some .int)) (apW [.fieldLink RX12 36 "HookPierModel" "thrown" "I", .methodLink RX12 320 yX12_isAnswer, .instanceMethod yX12_isAnswer, .selects RX12 yX12_isAnswer yX12_isAnswer, .initialized RX12, .methodLink RX12 353 yX12_refusesQuestion, .instanceMethod yX12_refusesQuestion, .selects RX12 yX12_refusesQuestion yX12_refusesQuestion, .methodLink RX12 46 yX12_good, .instanceMethod yX12_good, .selects RX12 yX12_good yX12_good, .fieldLink RX12 299 "HookPierModel" "pier" "LHookPierModel$Pier;", .methodLink RX12 386 yX11_wishBy, .instanceMethod yX11_wishBy, .selects RX11 yX11_wishBy yX11_wishBy, .initialized RX11, .methodLink RX12 42 yX12_refused, .instanceMethod yX12_refused, .selects RX12 yX12_refused yX12_refused] (apW wsX120 (apW vfX12_isAnswer (apW vfX12_refusesQuestion (apW vfX12_good (apW vfX11_wishBy (vfX12_refused)))))))
theorem ifX12_hungerFor_X12 : ∀ w ∈ wsX120, w ∈ vfX12_hungerFor := fun _ h => (List.mem_cons_of_mem _ (List.mem_append_right _ (List.mem_append_left _ h)))
theorem qfX12_hungerFor : Good vfX12_hungerFor := gd_cons (by decide +kernel) (gd_app (gd_dec (by decide +kernel) : Good [.fieldLink RX12 36 "HookPierModel" "thrown" "I", .methodLink RX12 320 yX12_isAnswer, .instanceMethod yX12_isAnswer, .selects RX12 yX12_isAnswer yX12_isAnswer, .initialized RX12, .methodLink RX12 353 yX12_refusesQuestion, .instanceMethod yX12_refusesQuestion, .selects RX12 yX12_refusesQuestion yX12_refusesQuestion, .methodLink RX12 46 yX12_good, .instanceMethod yX12_good, .selects RX12 yX12_good yX12_good, .fieldLink RX12 299 "HookPierModel" "pier" "LHookPierModel$Pier;", .methodLink RX12 386 yX11_wishBy, .instanceMethod yX11_wishBy, .selects RX11 yX11_wishBy yX11_wishBy, .initialized RX11, .methodLink RX12 42 yX12_refused, .instanceMethod yX12_refused, .selects RX12 yX12_refused yX12_refused]) (gd_app qsX12 (gd_app qfX12_isAnswer (gd_app qfX12_refusesQuestion (gd_app qfX12_good (gd_app qfX11_wishBy qfX12_refused))))))
theorem gfX12_hungerFor_0 : GoodIn vfX12_hungerFor (wsV RX12 320 RX12 yX12_isAnswer vfX12_isAnswer) := goodIn_app (goodIn_r [.methodLink RX12 320 yX12_isAnswer, .instanceMethod yX12_isAnswer, .selects RX12 yX12_isAnswer yX12_isAnswer, .initialized RX12] [2, 3, 4, 5] rfl (by decide +kernel)) (goodIn_m (fun _ h => (List.mem_cons_of_mem _ (List.mem_append_right _ (List.mem_append_right _ (List.mem_append_left _ h))))) qfX12_isAnswer)
theorem gfX12_hungerFor_1 : GoodIn vfX12_hungerFor (wsV RX12 353 RX12 yX12_refusesQuestion vfX12_refusesQuestion) := goodIn_app (goodIn_r [.methodLink RX12 353 yX12_refusesQuestion, .instanceMethod yX12_refusesQuestion, .selects RX12 yX12_refusesQuestion yX12_refusesQuestion, .initialized RX12] [6, 7, 8, 5] rfl (by decide +kernel)) (goodIn_m (fun _ h => (List.mem_cons_of_mem _ (List.mem_append_right _ (List.mem_append_right _ (List.mem_append_right _ (List.mem_append_left _ h)))))) qfX12_refusesQuestion)
theorem gfX12_hungerFor_2 : GoodIn vfX12_hungerFor (wsV RX12 46 RX12 yX12_good vfX12_good) := goodIn_app (goodIn_r [.methodLink RX12 46 yX12_good, .instanceMethod yX12_good, .selects RX12 yX12_good yX12_good, .initialized RX12] [9, 10, 11, 5] rfl (by decide +kernel)) (goodIn_m (fun _ h => (List.mem_cons_of_mem _ (List.mem_append_right _ (List.mem_append_right _ (List.mem_append_right _ (List.mem_append_right _ (List.mem_append_left _ h))))))) qfX12_good)
theorem gfX12_hungerFor_3 : GoodIn vfX12_hungerFor (wsV RX12 386 RX11 yX11_wishBy vfX11_wishBy) := goodIn_app (goodIn_r [.methodLink RX12 386 yX11_wishBy, .instanceMethod yX11_wishBy, .selects RX11 yX11_wishBy yX11_wishBy, .initialized RX11] [13, 14, 15, 16] rfl (by decide +kernel)) (goodIn_m (fun _ h => (List.mem_cons_of_mem _ (List.mem_append_right _ (List.mem_append_right _ (List.mem_append_right _ (List.mem_append_right _ (List.mem_append_right _ (List.mem_append_left _ h)))))))) qfX11_wishBy)
theorem gfX12_hungerFor_4 : GoodIn vfX12_hungerFor (wsV RX12 42 RX12 yX12_refused vfX12_refused) := goodIn_app (goodIn_r [.methodLink RX12 42 yX12_refused, .instanceMethod yX12_refused, .selects RX12 yX12_refused yX12_refused, .initialized RX12] [17, 18, 19, 5] rfl (by decide +kernel)) (goodIn_m (fun _ h => (List.mem_cons_of_mem _ (List.mem_append_right _ (List.mem_append_right _ (List.mem_append_right _ (List.mem_append_right _ (List.mem_append_right _ (List.mem_append_right _ h)))))))) qfX12_refused)
set_option maxHeartbeats 2000000 in
set_option maxRecDepth 100000 in
theorem kfX12_hungerFor (l : Launch) (dC : Nat → ClassId) (dI : Nat → Nat → Nat) (a0 : Nat) (k1 : Int32) (k2 : Int32) (k3 : Int32) (k4 : Int32) (a5 : Nat) (uq : Nat → Nat) (kq : Nat → ClassId) (m_t : TX12_t) (g9 : Value) (g10 : Value) (g11 : Value) (g12 : Value) (g13 : Value) (g14 : Value) (g15 : Value) (g16 : Value) (g17 : Value) (g18 : Value) (g19 : Value) (g20 : Value) (g21 : Value) (g22 : Value) (g23 : Value) (g24 : Value) (g25 : Value) (g26 : Value) (g27 : Value) (g28 : Value) (g29 : Value) (g30 : Value) (g31 : Value) (g32 : Value) (g33 : Value) (g34 : Value) (q_q : TX11_q) (sz : Nat) (out : (Int32 × TX12_t)) (h : f_X12_hungerFor k1 k2 k3 k4 m_t q_q = some out) : KCi l yX12_hungerFor vfX12_hungerFor ({ frames := 2, cells := 0, slots := 0, locals := 47 }) (dC, dI) [.ref a0, .int k1, .int k2, .int k3, .int k4] sz ((a0, .inr (9, [.int m_t.1, .int m_t.2.1, .int m_t.2.2, .ref a5, g9, g10, g11, g12, g13, g14, g15, g16, g17, g18, g19, g20, g21, g22, g23, g24, g25, g26, g27, g28, g29, g30, g31, g32, g33, g34])) :: bX11 a5 uq kq q_q []) (tX11 kq ([])) (fun (r : Int32) _ => r = out.1) ((a0, .inr (9, [.int out.2.1, .int out.2.2.1, .int out.2.2.2, .ref a5, g9, g10, g11, g12, g13, g14, g15, g16, g17, g18, g19, g20, g21, g22, g23, g24, g25, g26, g27, g28, g29, g30, g31, g32, g33, g34])) :: bX11 a5 uq kq q_q []) 0 0 := by
  refine Met.ofW (cc := cX12_hungerFor) (maxL := 7) (ret := (some .int)) (by decide) rfl ?_
  intro p e s m args below meth c s₁ B0 hml hv
  obtain ⟨rfl, hsz, hP, hK, hD0, hN⟩ := hv
  have hx := B0.exec
  have hb := B0.bytes
  have hr := B0.returns
  have hts := atoms_spec (ws := vfX12_hungerFor) B0.pre
  have hown : s.vm.findClass RX12 = some m.cls := findClass_of_methodNamed B0.named
  have hlocks := B0.notSynchronized
  subst hsz
  have hD := hD0.self (sz := s.heap.size)
  generalize hAe : va_A ((a0, .inr (9, [.int m_t.1, .int m_t.2.1, .int m_t.2.2, .ref a5, g9, g10, g11, g12, g13, g14, g15, g16, g17, g18, g19, g20, g21, g22, g23, g24, g25, g26, g27, g28, g29, g30, g31, g32, g33, g34])) :: bX11 a5 uq kq q_q []) s.heap.size = A at hD ⊢
  have hA : ∀ q : Nat, s.heap.size ≤ q → A q := fun q h => by rw [← hAe]; exact Or.inr h
  have hS : va_S A s.heap s.heap [] := va_S.rf
  have hP : va_P (dC, dI) vwCl ((a0, .inr (9, [.int m_t.1, .int m_t.2.1, .int m_t.2.2, .ref a5, g9, g10, g11, g12, g13, g14, g15, g16, g17, g18, g19, g20, g21, g22, g23, g24, g25, g26, g27, g28, g29, g30, g31, g32, g33, g34])) :: bX11 a5 uq kq q_q []) s.heap := hP
  have hl := lv_entry ([.ref a0, .int k1, .int k2, .int k3, .int k4]) (n := 7) (Nat.le_of_ble_eq_true rfl)
  rw [lg_entry_eq]
  generalize (lg_sl ([.ref a0, .int k1, .int k2, .int k3, .int k4]) ++ List.replicate (7 - (lg_sl ([.ref a0, .int k1, .int k2, .int k3, .int k4])).length) Slot.unset).toArray = ls at hl ⊢
  have hl : lv_has ls 7 [(0, .ref a0), (1, .int k1), (2, .int k2), (3, .int k3), (4, .int k4)] := hl
  refine W_q (fun QQ hQQ => ?_)
  rw [f_X12_hungerFor] at h
  refine lv_aload_n hx hb (zat zrX12_hungerFor_0_ok 0 rfl) rfl (lv_at hl 0 rfl) ?_
  refine lv_iconst (v := 0) hx hb (zat zrX12_hungerFor_0_ok 1 rfl) (by decide) ?_
  refine va_put (D := (dC, dI)) (ci := 9) (v := .int 0) (ty := .int) (C := RX12) (T := TX12) (N := 30) hx hb hts ifX12_hungerFor_X12 tyX12 tyX12_ok nmX12 hown hK hP hD hS 0 rfl rfl 0 (by decide) (hts (.fieldLink RX12 36 "HookPierModel" "thrown" "I") (List.mem_of_getElem? (i := 1) rfl)) (fun _ h9 => h9) rfl (by decide +kernel) rfl rfl (Nat.le_of_ble_eq_true rfl) (zat zrX12_hungerFor_0_ok 2 rfl) (fun H locs hP hD hS => ?_)
  obtain ⟨hP, hD⟩ := pd_mk ((a0, .inr (9, [.int 0, .int m_t.2.1, .int m_t.2.2, .ref a5, g9, g10, g11, g12, g13, g14, g15, g16, g17, g18, g19, g20, g21, g22, g23, g24, g25, g26, g27, g28, g29, g30, g31, g32, g33, g34])) :: bX11 a5 uq kq q_q []) hP hD
  refine lv_aload_n hx hb (zat zrX12_hungerFor_0_ok 3 rfl) rfl (lv_at hl 0 rfl) ?_
  refine lv_aload_n hx hb (zat zrX12_hungerFor_0_ok 4 rfl) rfl (lv_at hl 0 rfl) ?_
  refine lv_iload_n hx hb (zat zrX12_hungerFor_0_ok 5 rfl) rfl (lv_at hl 1 rfl) ?_
  obtain ⟨o8, eo8⟩ : ∃ o, o = f_X12_isAnswer k1 q_q := ⟨_, rfl⟩
  have h := nm_of h o8 eo8
  refine ck_i (wc := ((a0, .inr (9, [.int 0, .int m_t.2.1, .int m_t.2.2, .ref a5, g9, g10, g11, g12, g13, g14, g15, g16, g17, g18, g19, g20, g21, g22, g23, g24, g25, g26, g27, g28, g29, g30, g31, g32, g33, g34])) :: bX11 a5 uq kq q_q [])) (wr := []) hP hD hK hS hA [0, 1, 2, 3, 4, 5, 6, 7, 8, 9, 10, 11, 12, 13, 14, 15] [] rfl rfl (by decide) (by decide) (by decide) (fun hPc hDc => (va_runV (As := [.int k1]) (rest := [.ref a0]) ⟨hx, hb, hml, hown, hts⟩ (kfX12_isAnswer l dC dI a0 k1 a5 uq kq (.int 0) (.int m_t.2.1) (.int m_t.2.2) (g9) (g10) (g11) (g12) (g13) (g14) (g15) (g16) (g17) (g18) (g19) (g20) (g21) (g22) (g23) (g24) (g25) (g26) (g27) (g28) (g29) (g30) (g31) (g32) (g33) (g34) q_q H.size o8 eo8.symm) (cwV 1 hts gfX12_hungerFor_0 rfl rfl rfl (by decide +kernel) ⟨(Nat.le_of_ble_eq_true rfl), (Nat.le_of_ble_eq_true rfl)⟩) (PV hPc (hK.sub (tys' := (tX11 kq ([]))) [0, 1, 2, 3, 4, 5, 6, 7, 8, 9, 10, 11, 12, 13] rfl) hDc hN 0 rfl rfl) rfl rfl hl.1 rfl (lv_room (Nat.le_of_ble_eq_true rfl)) (zat zrX12_hungerFor_0_ok 6 rfl) ⟨(Nat.le_of_ble_eq_true rfl), (Nat.le_of_ble_eq_true rfl)⟩)) (fun r8 _ H locs hw hP hD _ hS => ?_)
  obtain ⟨hw, br8⟩ := hw
  obtain rfl := hw.symm
  obtain ⟨hP, hD⟩ := pd_mk ((a0, .inr (9, [.int 0, .int m_t.2.1, .int m_t.2.2, .ref a5, g9, g10, g11, g12, g13, g14, g15, g16, g17, g18, g19, g20, g21, g22, g23, g24, g25, g26, g27, g28, g29, g30, g31, g32, g33, g34])) :: bX11 a5 uq kq q_q []) hP hD
  refine lv_iload_n hx hb (zat zrX12_hungerFor_0_ok 7 rfl) rfl (lv_at hl 2 rfl) ?_
  refine lv_iload_n hx hb (zat zrX12_hungerFor_0_ok 8 rfl) rfl (lv_at hl 3 rfl) ?_
  refine lv_iload hx hb (zat zrX12_hungerFor_0_ok 9 rfl) (lv_at hl 4 rfl) ?_
  obtain ⟨o15, eo15⟩ : ∃ o, o = f_X12_refusesQuestion o8 k2 k3 k4 q_q := ⟨_, rfl⟩
  have h := nm_of h o15 eo15
  refine ck_i (wc := ((a0, .inr (9, [.int 0, .int m_t.2.1, .int m_t.2.2, .ref a5, g9, g10, g11, g12, g13, g14, g15, g16, g17, g18, g19, g20, g21, g22, g23, g24, g25, g26, g27, g28, g29, g30, g31, g32, g33, g34])) :: bX11 a5 uq kq q_q [])) (wr := []) hP hD hK hS hA [0, 1, 2, 3, 4, 5, 6, 7, 8, 9, 10, 11, 12, 13, 14, 15] [] rfl rfl (by decide) (by decide) (by decide) (fun hPc hDc => (va_runV (As := [.int o8, .int k2, .int k3, .int k4]) (rest := []) ⟨hx, hb, hml, hown, hts⟩ (kfX12_refusesQuestion l dC dI a0 o8 k2 k3 k4 a5 uq kq (.int 0) (.int m_t.2.1) (.int m_t.2.2) (g9) (g10) (g11) (g12) (g13) (g14) (g15) (g16) (g17) (g18) (g19) (g20) (g21) (g22) (g23) (g24) (g25) (g26) (g27) (g28) (g29) (g30) (g31) (g32) (g33) (g34) q_q H.size o15 eo15.symm) (cwV 4 hts gfX12_hungerFor_1 rfl rfl rfl (by decide +kernel) ⟨(Nat.le_of_ble_eq_true rfl), (Nat.le_of_ble_eq_true rfl)⟩) (PV hPc (hK.sub (tys' := (tX11 kq ([]))) [0, 1, 2, 3, 4, 5, 6, 7, 8, 9, 10, 11, 12, 13] rfl) hDc hN 0 rfl rfl) rfl rfl hl.1 rfl (lv_room (Nat.le_of_ble_eq_true rfl)) (zat zrX12_hungerFor_0_ok 10 rfl) ⟨(Nat.le_of_ble_eq_true rfl), (Nat.le_of_ble_eq_true rfl)⟩)) (fun r15 _ H locs hw hP hD _ hS => ?_)
  obtain rfl := hw.symm
  obtain ⟨hP, hD⟩ := pd_mk ((a0, .inr (9, [.int 0, .int m_t.2.1, .int m_t.2.2, .ref a5, g9, g10, g11, g12, g13, g14, g15, g16, g17, g18, g19, g20, g21, g22, g23, g24, g25, g26, g27, g28, g29, g30, g31, g32, g33, g34])) :: bX11 a5 uq kq q_q []) hP hD
  refine lv_istore (lv' := [(5, .int o15), (0, .ref a0), (1, .int k1), (2, .int k2), (3, .int k3), (4, .int k4)]) hx hb (zat zrX12_hungerFor_0_ok 11 rfl) hl (by decide) rfl (fun ls hl => ?_)
  refine lv_iload hx hb (zat zrX12_hungerFor_0_ok 12 rfl) (lv_at hl 0 rfl) ?_
  refine lv_if_le (tgt := 32) hx hb (zat zrX12_hungerFor_0_ok 13 rfl) (by decide) (fun c22 => ?_) (fun c22 => ?_)
  · have h := (if_pos c22).symm.trans h
    refine lv_iconst (v := 0) hx hb (zat zrX12_hungerFor_0_ok 18 rfl) (by decide) ?_
    refine lv_istore (lv' := [(6, .int 0), (5, .int o15), (0, .ref a0), (1, .int k1), (2, .int k2), (3, .int k3), (4, .int k4)]) hx hb (zat zrX12_hungerFor_0_ok 19 rfl) hl (by decide) rfl (fun ls hl => ?_)
    have L35 : ∀ (n35 : Nat) (v35_l6 : Int32) (H : Heap) (locs : List Loc) (ls : Array Slot), f_X12_hungerFor_L35 k1 k2 k3 k4 m_t q_q n35 v35_l6 = some out → va_P (dC, dI) vwCl ((a0, .inr (9, [.int 0, .int m_t.2.1, .int m_t.2.2, .ref a5, g9, g10, g11, g12, g13, g14, g15, g16, g17, g18, g19, g20, g21, g22, g23, g24, g25, g26, g27, g28, g29, g30, g31, g32, g33, g34])) :: bX11 a5 uq kq q_q []) H → va_D A ((a0, .inr (9, [.int 0, .int m_t.2.1, .int m_t.2.2, .ref a5, g9, g10, g11, g12, g13, g14, g15, g16, g17, g18, g19, g20, g21, g22, g23, g24, g25, g26, g27, g28, g29, g30, g31, g32, g33, g34])) :: bX11 a5 uq kq q_q []) → va_S A s.heap H locs → lv_has ls 7 [(6, .int v35_l6), (0, .ref a0), (1, .int k1), (2, .int k2), (3, .int k3), (4, .int k4)] → W p l e (headSpec vfX12_hungerFor { frames := 2, cells := 0, slots := 0, locals := 47 }).room s m ([.ref a0, .int k1, .int k2, .int k3, .int k4]).toArray below meth c H locs 0 0 QQ (F0 m 35 ls []) := by
      intro n35
      induction n35 with
      | zero =>
        intro v35_l6 H locs ls h  _ _ _ _
        rw [f_X12_hungerFor_L35] at h
        cases h
      | succ n35 ih35 =>
        intro v35_l6 H locs ls h  hP hD hS hl
        rw [f_X12_hungerFor_L35] at h
        refine lv_iload hx hb (zat zrX12_hungerFor_0_ok 20 rfl) (lv_at hl 0 rfl) ?_
        refine lv_bipush (v := 99) hx hb (zat zrX12_hungerFor_0_ok 21 rfl) (by decide) ?_
        refine lv_icmp_gt (tgt := 74) hx hb (zat zrX12_hungerFor_0_ok 22 rfl) (by decide) (fun c39 => ?_) (fun c39 => ?_)
        · have h := (if_pos c39).symm.trans h
          refine lv_aload_n hx hb (zat zrX12_hungerFor_0_ok 39 rfl) rfl (lv_at hl 1 rfl) ?_
          refine lv_bipush (v := (-2)) hx hb (zat zrX12_hungerFor_0_ok 40 rfl) (by decide) ?_
          obtain ⟨o77, eo77⟩ : ∃ o, o = f_X12_good (-2 : Int32) ((0 : Int32), m_t.2) := ⟨_, rfl⟩
          have h := nm_of h o77 eo77
          refine ck_i (wc := ([(a0, .inr (9, [.int 0, .int m_t.2.1, .int m_t.2.2, .ref a5, g9, g10, g11, g12, g13, g14, g15, g16, g17, g18, g19, g20, g21, g22, g23, g24, g25, g26, g27, g28, g29, g30, g31, g32, g33, g34]))])) (wr := (bX11 a5 uq kq q_q [])) hP hD hK hS hA [0] [1, 2, 3, 4, 5, 6, 7, 8, 9, 10, 11, 12, 13, 14, 15] rfl rfl (by decide) (by decide) (by decide) (fun hPc hDc => (va_runV (As := [.int (-2)]) (rest := []) ⟨hx, hb, hml, hown, hts⟩ (kfX12_good l dC dI a0 (-2 : Int32) ((0 : Int32), m_t.2) (.ref a5) (g9) (g10) (g11) (g12) (g13) (g14) (g15) (g16) (g17) (g18) (g19) (g20) (g21) (g22) (g23) (g24) (g25) (g26) (g27) (g28) (g29) (g30) (g31) (g32) (g33) (g34) H.size o77 eo77.symm) (cwV 1 hts gfX12_hungerFor_2 rfl rfl rfl (by decide +kernel) ⟨(Nat.le_of_ble_eq_true rfl), (Nat.le_of_ble_eq_true rfl)⟩) (PV hPc (hK.sub (tys' := ([])) [] rfl) hDc hN 0 rfl rfl) rfl rfl hl.1 rfl (lv_room (Nat.le_of_ble_eq_true rfl)) (zat zrX12_hungerFor_0_ok 41 rfl) ⟨(Nat.le_of_ble_eq_true rfl), (Nat.le_of_ble_eq_true rfl)⟩)) (fun r77 _ H locs hw hP hD _ hS => ?_)
          obtain rfl := hw
          obtain ⟨hP, hD⟩ := pd_mk (bX11 a5 uq kq q_q ([(a0, .inr (9, [.int o77.2.1, .int o77.2.2.1, .int o77.2.2.2, .ref a5, g9, g10, g11, g12, g13, g14, g15, g16, g17, g18, g19, g20, g21, g22, g23, g24, g25, g26, g27, g28, g29, g30, g31, g32, g33, g34]))])) hP hD
          obtain rfl := Option.some.inj h
          obtain ⟨hP9, hD9⟩ := pd_sub ((a0, .inr (9, [.int o77.2.1, .int o77.2.2.1, .int o77.2.2.2, .ref a5, g9, g10, g11, g12, g13, g14, g15, g16, g17, g18, g19, g20, g21, g22, g23, g24, g25, g26, g27, g28, g29, g30, g31, g32, g33, g34])) :: bX11 a5 uq kq q_q []) [15, 0, 1, 2, 3, 4, 5, 6, 7, 8, 9, 10, 11, 12, 13, 14] hP hD (by decide) rfl
          have hK9 := hK.sub (tys' := []) [] rfl
          rw [hQQ]
          exact W.iret (v := o77.1) hx hb hr (fun t ht hW => ⟨⟨o77.1, (), rfl, rfl, by rw [ht]; exact hP9, va_K.moved hW.alike hK9, hD9⟩, hS.F ht⟩) hS.2.2 (zat zrX12_hungerFor_0_ok 42 rfl)
        · have h := (if_neg c39).symm.trans h
          refine lv_aload_n hx hb (zat zrX12_hungerFor_0_ok 23 rfl) rfl (lv_at hl 1 rfl) ?_
          refine va_get (D := (dC, dI)) (ci := 9) (v := .ref a5) (C := RX12) (T := TX12) (N := 30) hx hb hts ifX12_hungerFor_X12 hown hK hP 0 rfl rfl 3 (by decide) (hts (.fieldLink RX12 299 "HookPierModel" "pier" "LHookPierModel$Pier;") (List.mem_of_getElem? (i := 12) rfl)) (fun _ h9 => h9) rfl (zat zrX12_hungerFor_0_ok 24 rfl) ?_
          refine lv_iload hx hb (zat zrX12_hungerFor_0_ok 25 rfl) (lv_at hl 0 rfl) ?_
          refine lv_iload_n hx hb (zat zrX12_hungerFor_0_ok 26 rfl) rfl (lv_at hl 2 rfl) ?_
          refine lv_iload_n hx hb (zat zrX12_hungerFor_0_ok 27 rfl) rfl (lv_at hl 3 rfl) ?_
          refine lv_iload_n hx hb (zat zrX12_hungerFor_0_ok 28 rfl) rfl (lv_at hl 4 rfl) ?_
          refine lv_iload hx hb (zat zrX12_hungerFor_0_ok 29 rfl) (lv_at hl 5 rfl) ?_
          obtain ⟨o53, eo53, h⟩ := bd_of h
          refine ck_i (wc := (bX11 a5 uq kq q_q [])) (wr := ([(a0, .inr (9, [.int 0, .int m_t.2.1, .int m_t.2.2, .ref a5, g9, g10, g11, g12, g13, g14, g15, g16, g17, g18, g19, g20, g21, g22, g23, g24, g25, g26, g27, g28, g29, g30, g31, g32, g33, g34]))])) hP hD hK hS hA [1, 2, 3, 4, 5, 6, 7, 8, 9, 10, 11, 12, 13, 14, 15] [0] rfl rfl (by decide) (by decide) (by decide) (fun hPc hDc => (va_runV (As := [.int v35_l6, .int k1, .int k2, .int k3, .int k4]) (rest := []) ⟨hx, hb, hml, hown, hts⟩ (kfX11_wishBy l dC dI a5 v35_l6 k1 k2 k3 k4 uq kq q_q H.size o53 eo53) (cwV 5 hts gfX12_hungerFor_3 rfl rfl rfl (by decide +kernel) ⟨(Nat.le_of_ble_eq_true rfl), (Nat.le_of_ble_eq_true rfl)⟩) (PV hPc (hK.sub (tys' := (tX11 kq ([]))) [0, 1, 2, 3, 4, 5, 6, 7, 8, 9, 10, 11, 12, 13] rfl) hDc hN 0 rfl rfl) rfl rfl hl.1 rfl (lv_room (Nat.le_of_ble_eq_true rfl)) (zat zrX12_hungerFor_0_ok 30 rfl) ⟨(Nat.le_of_ble_eq_true rfl), (Nat.le_of_ble_eq_true rfl)⟩)) (fun r53 _ H locs hw hP hD _ hS => ?_)
          obtain rfl := hw.symm
          obtain ⟨hP, hD⟩ := pd_mk ((a0, .inr (9, [.int 0, .int m_t.2.1, .int m_t.2.2, .ref a5, g9, g10, g11, g12, g13, g14, g15, g16, g17, g18, g19, g20, g21, g22, g23, g24, g25, g26, g27, g28, g29, g30, g31, g32, g33, g34])) :: bX11 a5 uq kq q_q []) hP hD
          refine lv_bipush (v := 50) hx hb (zat zrX12_hungerFor_0_ok 31 rfl) (by decide) ?_
          refine lv_icmp_lt (tgt := 68) hx hb (zat zrX12_hungerFor_0_ok 32 rfl) (by decide) (fun c58 => ?_) (fun c58 => ?_)
          · have h := (if_pos c58).symm.trans h
            refine lv_iinc (v := (v35_l6 + (1 : Int32))) (lv' := [(6, .int (v35_l6 + (1 : Int32))), (0, .ref a0), (1, .int k1), (2, .int k2), (3, .int k3), (4, .int k4)]) hx hb (zat zrX12_hungerFor_0_ok 37 rfl) hl (k := 0) rfl rfl (by decide) rfl (fun ls hl => ?_)
            refine lv_goto (tgt := 35) hx hb (zat zrX12_hungerFor_0_ok 38 rfl) (by decide) ?_
            exact ih35 (v35_l6 + (1 : Int32)) H _ ls h  hP hD hS (lv_sub hl [0, 1, 2, 3, 4, 5] rfl)
          · have h := (if_neg c58).symm.trans h
            refine lv_aload_n hx hb (zat zrX12_hungerFor_0_ok 33 rfl) rfl (lv_at hl 1 rfl) ?_
            refine lv_iload hx hb (zat zrX12_hungerFor_0_ok 34 rfl) (lv_at hl 0 rfl) ?_
            obtain ⟨o64, eo64⟩ : ∃ o, o = f_X12_good v35_l6 ((0 : Int32), m_t.2) := ⟨_, rfl⟩
            have h := nm_of h o64 eo64
            refine ck_i (wc := ([(a0, .inr (9, [.int 0, .int m_t.2.1, .int m_t.2.2, .ref a5, g9, g10, g11, g12, g13, g14, g15, g16, g17, g18, g19, g20, g21, g22, g23, g24, g25, g26, g27, g28, g29, g30, g31, g32, g33, g34]))])) (wr := (bX11 a5 uq kq q_q [])) hP hD hK hS hA [0] [1, 2, 3, 4, 5, 6, 7, 8, 9, 10, 11, 12, 13, 14, 15] rfl rfl (by decide) (by decide) (by decide) (fun hPc hDc => (va_runV (As := [.int v35_l6]) (rest := []) ⟨hx, hb, hml, hown, hts⟩ (kfX12_good l dC dI a0 v35_l6 ((0 : Int32), m_t.2) (.ref a5) (g9) (g10) (g11) (g12) (g13) (g14) (g15) (g16) (g17) (g18) (g19) (g20) (g21) (g22) (g23) (g24) (g25) (g26) (g27) (g28) (g29) (g30) (g31) (g32) (g33) (g34) H.size o64 eo64.symm) (cwV 1 hts gfX12_hungerFor_2 rfl rfl rfl (by decide +kernel) ⟨(Nat.le_of_ble_eq_true rfl), (Nat.le_of_ble_eq_true rfl)⟩) (PV hPc (hK.sub (tys' := ([])) [] rfl) hDc hN 0 rfl rfl) rfl rfl hl.1 rfl (lv_room (Nat.le_of_ble_eq_true rfl)) (zat zrX12_hungerFor_0_ok 35 rfl) ⟨(Nat.le_of_ble_eq_true rfl), (Nat.le_of_ble_eq_true rfl)⟩)) (fun r64 _ H locs hw hP hD _ hS => ?_)
            obtain rfl := hw
            obtain ⟨hP, hD⟩ := pd_mk (bX11 a5 uq kq q_q ([(a0, .inr (9, [.int o64.2.1, .int o64.2.2.1, .int o64.2.2.2, .ref a5, g9, g10, g11, g12, g13, g14, g15, g16, g17, g18, g19, g20, g21, g22, g23, g24, g25, g26, g27, g28, g29, g30, g31, g32, g33, g34]))])) hP hD
            obtain rfl := Option.some.inj h
            obtain ⟨hP9, hD9⟩ := pd_sub ((a0, .inr (9, [.int o64.2.1, .int o64.2.2.1, .int o64.2.2.2, .ref a5, g9, g10, g11, g12, g13, g14, g15, g16, g17, g18, g19, g20, g21, g22, g23, g24, g25, g26, g27, g28, g29, g30, g31, g32, g33, g34])) :: bX11 a5 uq kq q_q []) [15, 0, 1, 2, 3, 4, 5, 6, 7, 8, 9, 10, 11, 12, 13, 14] hP hD (by decide) rfl
            have hK9 := hK.sub (tys' := []) [] rfl
            rw [hQQ]
            exact W.iret (v := o64.1) hx hb hr (fun t ht hW => ⟨⟨o64.1, (), rfl, rfl, by rw [ht]; exact hP9, va_K.moved hW.alike hK9, hD9⟩, hS.F ht⟩) hS.2.2 (zat zrX12_hungerFor_0_ok 36 rfl)
    exact L35 FU (0 : Int32) H _ ls h  hP hD hS (lv_sub hl [0, 2, 3, 4, 5, 6] rfl)
  · have h := (if_neg c22).symm.trans h
    refine lv_aload_n hx hb (zat zrX12_hungerFor_0_ok 14 rfl) rfl (lv_at hl 1 rfl) ?_
    refine lv_iload hx hb (zat zrX12_hungerFor_0_ok 15 rfl) (lv_at hl 0 rfl) ?_
    obtain ⟨o28, eo28⟩ : ∃ o, o = f_X12_refused o15 ((0 : Int32), m_t.2) := ⟨_, rfl⟩
    have h := nm_of h o28 eo28
    refine ck_i (wc := ([(a0, .inr (9, [.int 0, .int m_t.2.1, .int m_t.2.2, .ref a5, g9, g10, g11, g12, g13, g14, g15, g16, g17, g18, g19, g20, g21, g22, g23, g24, g25, g26, g27, g28, g29, g30, g31, g32, g33, g34]))])) (wr := (bX11 a5 uq kq q_q [])) hP hD hK hS hA [0] [1, 2, 3, 4, 5, 6, 7, 8, 9, 10, 11, 12, 13, 14, 15] rfl rfl (by decide) (by decide) (by decide) (fun hPc hDc => (va_runV (As := [.int o15]) (rest := []) ⟨hx, hb, hml, hown, hts⟩ (kfX12_refused l dC dI a0 o15 ((0 : Int32), m_t.2) (.ref a5) (g9) (g10) (g11) (g12) (g13) (g14) (g15) (g16) (g17) (g18) (g19) (g20) (g21) (g22) (g23) (g24) (g25) (g26) (g27) (g28) (g29) (g30) (g31) (g32) (g33) (g34) H.size o28 eo28.symm) (cwV 1 hts gfX12_hungerFor_4 rfl rfl rfl (by decide +kernel) ⟨(Nat.le_of_ble_eq_true rfl), (Nat.le_of_ble_eq_true rfl)⟩) (PV hPc (hK.sub (tys' := ([])) [] rfl) hDc hN 0 rfl rfl) rfl rfl hl.1 rfl (lv_room (Nat.le_of_ble_eq_true rfl)) (zat zrX12_hungerFor_0_ok 16 rfl) ⟨(Nat.le_of_ble_eq_true rfl), (Nat.le_of_ble_eq_true rfl)⟩)) (fun r28 _ H locs hw hP hD _ hS => ?_)
    obtain rfl := hw
    obtain ⟨hP, hD⟩ := pd_mk (bX11 a5 uq kq q_q ([(a0, .inr (9, [.int o28.1, .int o28.2.1, .int o28.2.2, .ref a5, g9, g10, g11, g12, g13, g14, g15, g16, g17, g18, g19, g20, g21, g22, g23, g24, g25, g26, g27, g28, g29, g30, g31, g32, g33, g34]))])) hP hD
    obtain rfl := Option.some.inj h
    obtain ⟨hP9, hD9⟩ := pd_sub ((a0, .inr (9, [.int o28.1, .int o28.2.1, .int o28.2.2, .ref a5, g9, g10, g11, g12, g13, g14, g15, g16, g17, g18, g19, g20, g21, g22, g23, g24, g25, g26, g27, g28, g29, g30, g31, g32, g33, g34])) :: bX11 a5 uq kq q_q []) [15, 0, 1, 2, 3, 4, 5, 6, 7, 8, 9, 10, 11, 12, 13, 14] hP hD (by decide) rfl
    have hK9 := hK.sub (tys' := []) [] rfl
    rw [hQQ]
    exact W.iret (v := (-1 : Int32)) hx hb hr (fun t ht hW => ⟨⟨(-1 : Int32), (), rfl, rfl, by rw [ht]; exact hP9, va_K.moved hW.alike hK9, hD9⟩, hS.F ht⟩) hS.2.2 (zat zrX12_hungerFor_0_ok 17 rfl)
