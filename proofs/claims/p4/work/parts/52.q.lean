theorem dX12_refusesSure_0 : decode cX12_refusesSure 0 = .ok (.aload_n 0, 1) := by decide +kernel
theorem dX12_refusesSure_1 : decode cX12_refusesSure 1 = .ok (.iload_n 1, 1) := by decide +kernel
theorem dX12_refusesSure_12 : decode cX12_refusesSure 12 = .ok (.aload_n 0, 1) := by decide +kernel
theorem dX12_refusesSure_13 : decode cX12_refusesSure 13 = .ok (.getfield 17, 3) := by decide +kernel
theorem dX12_refusesSure_16 : decode cX12_refusesSure 16 = .ok (.iconst 0, 1) := by decide +kernel
theorem dX12_refusesSure_17 : decode cX12_refusesSure 17 = .ok (.iload_n 1, 1) := by decide +kernel
theorem dX12_refusesSure_18 : decode cX12_refusesSure 18 = .ok (.iadd, 1) := by decide +kernel
theorem dX12_refusesSure_19 : decode cX12_refusesSure 19 = .ok (.iaload, 1) := by decide +kernel
theorem dX12_refusesSure_2 : decode cX12_refusesSure 2 = .ok (.invokevirtual 320, 3) := by decide +kernel
theorem dX12_refusesSure_20 : decode cX12_refusesSure 20 = .ok (.ifCond .ne 7, 3) := by decide +kernel
theorem dX12_refusesSure_23 : decode cX12_refusesSure 23 = .ok (.iconst 0, 1) := by decide +kernel
theorem dX12_refusesSure_24 : decode cX12_refusesSure 24 = .ok (.goto 4, 3) := by decide +kernel
theorem dX12_refusesSure_27 : decode cX12_refusesSure 27 = .ok (.iconst 5, 1) := by decide +kernel
theorem dX12_refusesSure_28 : decode cX12_refusesSure 28 = .ok (.ireturn, 1) := by decide +kernel
theorem dX12_refusesSure_5 : decode cX12_refusesSure 5 = .ok (.ifCond .ne 7, 3) := by decide +kernel
theorem dX12_refusesSure_8 : decode cX12_refusesSure 8 = .ok (.iconst 1, 1) := by decide +kernel
theorem dX12_refusesSure_9 : decode cX12_refusesSure 9 = .ok (.goto 19, 3) := by decide +kernel
def vfX12_refusesSure : List Cond := List.cons (.code yX12_refusesSure cX12_refusesSure 2 (some .int)) (apW [.methodLink RX12 320 yX12_isAnswer, .instanceMethod yX12_isAnswer, .selects RX12 yX12_isAnswer yX12_isAnswer, .initialized RX12, .fieldLink RX12 17 "HookPierModel" "v" "[I"] (apW wsX120 (vfX12_isAnswer)))
theorem ifX12_refusesSure_X12 : ∀ w ∈ wsX120, w ∈ vfX12_refusesSure := fun _ h => (List.mem_cons_of_mem _ (List.mem_append_right _ (List.mem_append_left _ h)))
theorem qfX12_refusesSure : Good vfX12_refusesSure := gd_cons (by decide +kernel) (gd_app (gd_dec (by decide +kernel) : Good [.methodLink RX12 320 yX12_isAnswer, .instanceMethod yX12_isAnswer, .selects RX12 yX12_isAnswer yX12_isAnswer, .initialized RX12, .fieldLink RX12 17 "HookPierModel" "v" "[I"]) (gd_app qsX12 qfX12_isAnswer))
theorem gfX12_refusesSure_0 : GoodIn vfX12_refusesSure (wsV RX12 320 RX12 yX12_isAnswer vfX12_isAnswer) := goodIn_app (goodIn_r [.methodLink RX12 320 yX12_isAnswer, .instanceMethod yX12_isAnswer, .selects RX12 yX12_isAnswer yX12_isAnswer, .initialized RX12] [1, 2, 3, 4] rfl (by decide +kernel)) (goodIn_m (fun _ h => (List.mem_cons_of_mem _ (List.mem_append_right _ (List.mem_append_right _ h)))) qfX12_isAnswer)
set_option maxHeartbeats 2000000 in
set_option maxRecDepth 100000 in
theorem kfX12_refusesSure (l : Launch) (dC : Nat → ClassId) (dI : Nat → Nat → Nat) (a0 : Nat) (k1 : Int32) (a2 : Nat) (a3 : Nat) (uq : Nat → Nat) (kq : Nat → ClassId) (m_v : TX12_v) (g7 : Value) (g8 : Value) (g9 : Value) (g10 : Value) (g11 : Value) (g12 : Value) (g13 : Value) (g14 : Value) (g15 : Value) (g16 : Value) (g17 : Value) (g18 : Value) (g19 : Value) (g20 : Value) (g21 : Value) (g22 : Value) (g23 : Value) (g24 : Value) (g25 : Value) (g26 : Value) (g27 : Value) (g28 : Value) (g29 : Value) (g30 : Value) (g31 : Value) (g32 : Value) (g33 : Value) (g34 : Value) (q_q : TX11_q) (cB36 : ClassId) (sz : Nat) (out : Int32) (h : f_X12_refusesSure k1 m_v q_q = some out) : Met l yX12_refusesSure vfX12_refusesSure ({ frames := 1, cells := 0, slots := 0, locals := 21 }) (PC (dC, dI) [.ref a0, .int k1] sz ((a0, .inr (9, [g7, g8, g9, .ref a2, g10, g11, g12, g13, g14, g15, g16, g17, g18, g19, g20, .ref a3, g21, g22, g23, g24, g25, g26, g27, g28, g29, g30, g31, g32, g33, g34])) :: bX11 a2 uq kq q_q ([(a3, .inl (cB36, 26, .inl m_v))])) (tX11 kq ((cB36, .int) :: []))) (va_Qi (S := Unit) (fun (r : Int32) _ => r = out) (fun _ t => BC (dC, dI) (va_A ((a0, .inr (9, [g7, g8, g9, .ref a2, g10, g11, g12, g13, g14, g15, g16, g17, g18, g19, g20, .ref a3, g21, g22, g23, g24, g25, g26, g27, g28, g29, g30, g31, g32, g33, g34])) :: bX11 a2 uq kq q_q ([(a3, .inl (cB36, 26, .inl m_v))])) sz) ((a0, .inr (9, [g7, g8, g9, .ref a2, g10, g11, g12, g13, g14, g15, g16, g17, g18, g19, g20, .ref a3, g21, g22, g23, g24, g25, g26, g27, g28, g29, g30, g31, g32, g33, g34])) :: bX11 a2 uq kq q_q ([(a3, .inl (cB36, 26, .inl m_v))])) [] t) (va_A ((a0, .inr (9, [g7, g8, g9, .ref a2, g10, g11, g12, g13, g14, g15, g16, g17, g18, g19, g20, .ref a3, g21, g22, g23, g24, g25, g26, g27, g28, g29, g30, g31, g32, g33, g34])) :: bX11 a2 uq kq q_q ([(a3, .inl (cB36, 26, .inl m_v))])) sz)) 0 0 (va_A ((a0, .inr (9, [g7, g8, g9, .ref a2, g10, g11, g12, g13, g14, g15, g16, g17, g18, g19, g20, .ref a3, g21, g22, g23, g24, g25, g26, g27, g28, g29, g30, g31, g32, g33, g34])) :: bX11 a2 uq kq q_q ([(a3, .inl (cB36, 26, .inl m_v))])) sz) := by
  refine Met.ofW (cc := cX12_refusesSure) (maxL := 2) (ret := (some .int)) (by decide) rfl ?_
  intro p e s m args below meth c s₁ B0 hml hv
  obtain ⟨rfl, hsz, hP, hK, hD0, hN⟩ := hv
  have hx := B0.exec
  have hb := B0.bytes
  have hr := B0.returns
  have hts := atoms_spec (ws := vfX12_refusesSure) B0.pre
  have hown : s.vm.findClass RX12 = some m.cls := findClass_of_methodNamed B0.named
  have hlocks := B0.notSynchronized
  subst hsz
  have hD := hD0.self (sz := s.heap.size)
  generalize hAe : va_A ((a0, .inr (9, [g7, g8, g9, .ref a2, g10, g11, g12, g13, g14, g15, g16, g17, g18, g19, g20, .ref a3, g21, g22, g23, g24, g25, g26, g27, g28, g29, g30, g31, g32, g33, g34])) :: bX11 a2 uq kq q_q ([(a3, .inl (cB36, 26, .inl m_v))])) s.heap.size = A at hD ⊢
  have hA : ∀ q : Nat, s.heap.size ≤ q → A q := fun q h => by rw [← hAe]; exact Or.inr h
  have hS : va_S A s.heap s.heap [] := va_S.rf
  have hP : va_P (dC, dI) vwCl ((a0, .inr (9, [g7, g8, g9, .ref a2, g10, g11, g12, g13, g14, g15, g16, g17, g18, g19, g20, .ref a3, g21, g22, g23, g24, g25, g26, g27, g28, g29, g30, g31, g32, g33, g34])) :: bX11 a2 uq kq q_q ([(a3, .inl (cB36, 26, .inl m_v))])) s.heap := hP
  have hl := lv_entry ([.ref a0, .int k1]) (n := 2) (Nat.le_of_ble_eq_true rfl)
  rw [lg_entry_eq]
  generalize (lg_sl ([.ref a0, .int k1]) ++ List.replicate (2 - (lg_sl ([.ref a0, .int k1])).length) Slot.unset).toArray = ls at hl ⊢
  have hl : lv_has ls 2 [(0, .ref a0), (1, .int k1)] := hl
  refine W_q (fun QQ hQQ => ?_)
  rw [f_X12_refusesSure] at h
  refine lv_aload_n hx hb dX12_refusesSure_0 rfl (lv_at hl 0 rfl) ?_
  refine lv_iload_n hx hb dX12_refusesSure_1 rfl (lv_at hl 1 rfl) ?_
  obtain ⟨o2, eo2⟩ : ∃ o, o = f_X12_isAnswer k1 q_q := ⟨_, rfl⟩
  have h := nm_of h o2 eo2
  refine cl_i (wc := ((a0, .inr (9, [g7, g8, g9, .ref a2, g10, g11, g12, g13, g14, g15, g16, g17, g18, g19, g20, .ref a3, g21, g22, g23, g24, g25, g26, g27, g28, g29, g30, g31, g32, g33, g34])) :: bX11 a2 uq kq q_q [])) (wr := ([(a3, .inl (cB36, 26, .inl m_v))])) (va_runV (As := [.int k1]) (rest := []) ⟨hx, hb, hml, hown, hts⟩ (kfX12_isAnswer l dC dI a0 k1 a2 uq kq (g7) (g8) (g9) (g10) (g11) (g12) (g13) (g14) (g15) (g16) (g17) (g18) (g19) (g20) (.ref a3) (g21) (g22) (g23) (g24) (g25) (g26) (g27) (g28) (g29) (g30) (g31) (g32) (g33) (g34) q_q s.heap.size o2 eo2.symm) (cwV 1 hts gfX12_refusesSure_0 rfl rfl rfl (by decide +kernel) ⟨(Nat.le_of_ble_eq_true rfl), (Nat.le_of_ble_eq_true rfl)⟩) (PV (hP.sub (ws' := ((a0, .inr (9, [g7, g8, g9, .ref a2, g10, g11, g12, g13, g14, g15, g16, g17, g18, g19, g20, .ref a3, g21, g22, g23, g24, g25, g26, g27, g28, g29, g30, g31, g32, g33, g34])) :: bX11 a2 uq kq q_q [])) [0, 1, 2, 3, 4, 5, 6, 7, 8, 9, 10, 11, 12, 13, 14, 15] rfl) (hK.sub (tys' := (tX11 kq ([]))) [0, 1, 2, 3, 4, 5, 6, 7, 8, 9, 10, 11, 12, 13] rfl) (hD.sub (ws' := ((a0, .inr (9, [g7, g8, g9, .ref a2, g10, g11, g12, g13, g14, g15, g16, g17, g18, g19, g20, .ref a3, g21, g22, g23, g24, g25, g26, g27, g28, g29, g30, g31, g32, g33, g34])) :: bX11 a2 uq kq q_q [])) [0, 1, 2, 3, 4, 5, 6, 7, 8, 9, 10, 11, 12, 13, 14, 15] (by decide) rfl) hN 0 rfl rfl) rfl rfl hl.1 rfl (lv_room (Nat.le_of_ble_eq_true rfl)) dX12_refusesSure_2 ⟨(Nat.le_of_ble_eq_true rfl), (Nat.le_of_ble_eq_true rfl)⟩) hP hD hK hS hA [0, 1, 2, 3, 4, 5, 6, 7, 8, 9, 10, 11, 12, 13, 14, 15] [16] rfl rfl (by decide) (by decide) (fun r2 _ H locs hw hP hD _ hS => ?_)
  obtain ⟨hw, br2⟩ := hw
  obtain rfl := hw.symm
  have hP : va_P (dC, dI) vwCl ((a3, .inl (cB36, 26, .inl m_v)) :: (a0, .inr (9, [g7, g8, g9, .ref a2, g10, g11, g12, g13, g14, g15, g16, g17, g18, g19, g20, .ref a3, g21, g22, g23, g24, g25, g26, g27, g28, g29, g30, g31, g32, g33, g34])) :: bX11 a2 uq kq q_q []) H := hP
  have hD : va_D A ((a3, .inl (cB36, 26, .inl m_v)) :: (a0, .inr (9, [g7, g8, g9, .ref a2, g10, g11, g12, g13, g14, g15, g16, g17, g18, g19, g20, .ref a3, g21, g22, g23, g24, g25, g26, g27, g28, g29, g30, g31, g32, g33, g34])) :: bX11 a2 uq kq q_q []) := hD
  refine lv_if_ne (tgt := 12) hx hb dX12_refusesSure_5 (by decide) (fun c5 => ?_) (fun c5 => ?_)
  · have h := (if_neg c5).symm.trans h
    refine lv_aload_n hx hb dX12_refusesSure_12 rfl (lv_at hl 0 rfl) ?_
    refine va_get (D := (dC, dI)) (ci := 9) (v := .ref a3) (C := RX12) (T := TX12) (N := 30) hx hb hts ifX12_refusesSure_X12 hown hK hP 1 rfl rfl 15 (by decide) (hts (.fieldLink RX12 17 "HookPierModel" "v" "[I") (List.mem_of_getElem? (i := 5) rfl)) (fun _ h9 => h9) rfl dX12_refusesSure_13 ?_
    refine lv_iconst (v := 0) hx hb dX12_refusesSure_16 (by decide) ?_
    refine lv_iload_n hx hb dX12_refusesSure_17 rfl (lv_at hl 1 rfl) ?_
    refine lv_iadd hx hb dX12_refusesSure_18 ?_
    obtain ⟨hg19, h⟩ := gA_of h
    refine va_iald hx hb hK hP 0 14 rfl rfl hg19 dX12_refusesSure_19 ?_
    refine lv_if_ne (tgt := 27) hx hb dX12_refusesSure_20 (by decide) (fun c20 => ?_) (fun c20 => ?_)
    · have h := (if_neg c20).symm.trans h
      refine lv_iconst (v := 5) hx hb dX12_refusesSure_27 (by decide) ?_
      obtain rfl := Option.some.inj h
      have hP9 := hP.sub (ws' := ((a0, .inr (9, [g7, g8, g9, .ref a2, g10, g11, g12, g13, g14, g15, g16, g17, g18, g19, g20, .ref a3, g21, g22, g23, g24, g25, g26, g27, g28, g29, g30, g31, g32, g33, g34])) :: bX11 a2 uq kq q_q ([(a3, .inl (cB36, 26, .inl m_v))]))) [1, 2, 3, 4, 5, 6, 7, 8, 9, 10, 11, 12, 13, 14, 15, 16, 0] rfl
      have hD9 := hD.sub (ws' := ((a0, .inr (9, [g7, g8, g9, .ref a2, g10, g11, g12, g13, g14, g15, g16, g17, g18, g19, g20, .ref a3, g21, g22, g23, g24, g25, g26, g27, g28, g29, g30, g31, g32, g33, g34])) :: bX11 a2 uq kq q_q ([(a3, .inl (cB36, 26, .inl m_v))]))) [1, 2, 3, 4, 5, 6, 7, 8, 9, 10, 11, 12, 13, 14, 15, 16, 0] (by decide) rfl
      have hK9 := hK.sub (tys' := []) [] rfl
      rw [hQQ]
      exact W.iret (v := (5 : Int32)) hx hb hr (fun t ht hW => ⟨⟨(5 : Int32), (), rfl, rfl, by rw [ht]; exact hP9, va_K.moved hW.alike hK9, hD9⟩, hS.F ht⟩) hS.2.2 dX12_refusesSure_28
    · have h := (if_pos c20).symm.trans h
      refine lv_iconst (v := 0) hx hb dX12_refusesSure_23 (by decide) ?_
      refine lv_goto (tgt := 28) hx hb dX12_refusesSure_24 (by decide) ?_
      obtain rfl := Option.some.inj h
      have hP9 := hP.sub (ws' := ((a0, .inr (9, [g7, g8, g9, .ref a2, g10, g11, g12, g13, g14, g15, g16, g17, g18, g19, g20, .ref a3, g21, g22, g23, g24, g25, g26, g27, g28, g29, g30, g31, g32, g33, g34])) :: bX11 a2 uq kq q_q ([(a3, .inl (cB36, 26, .inl m_v))]))) [1, 2, 3, 4, 5, 6, 7, 8, 9, 10, 11, 12, 13, 14, 15, 16, 0] rfl
      have hD9 := hD.sub (ws' := ((a0, .inr (9, [g7, g8, g9, .ref a2, g10, g11, g12, g13, g14, g15, g16, g17, g18, g19, g20, .ref a3, g21, g22, g23, g24, g25, g26, g27, g28, g29, g30, g31, g32, g33, g34])) :: bX11 a2 uq kq q_q ([(a3, .inl (cB36, 26, .inl m_v))]))) [1, 2, 3, 4, 5, 6, 7, 8, 9, 10, 11, 12, 13, 14, 15, 16, 0] (by decide) rfl
      have hK9 := hK.sub (tys' := []) [] rfl
      rw [hQQ]
      exact W.iret (v := (0 : Int32)) hx hb hr (fun t ht hW => ⟨⟨(0 : Int32), (), rfl, rfl, by rw [ht]; exact hP9, va_K.moved hW.alike hK9, hD9⟩, hS.F ht⟩) hS.2.2 dX12_refusesSure_28
  · have h := (if_pos c5).symm.trans h
    refine lv_iconst (v := 1) hx hb dX12_refusesSure_8 (by decide) ?_
    refine lv_goto (tgt := 28) hx hb dX12_refusesSure_9 (by decide) ?_
    obtain rfl := Option.some.inj h
    have hP9 := hP.sub (ws' := ((a0, .inr (9, [g7, g8, g9, .ref a2, g10, g11, g12, g13, g14, g15, g16, g17, g18, g19, g20, .ref a3, g21, g22, g23, g24, g25, g26, g27, g28, g29, g30, g31, g32, g33, g34])) :: bX11 a2 uq kq q_q ([(a3, .inl (cB36, 26, .inl m_v))]))) [1, 2, 3, 4, 5, 6, 7, 8, 9, 10, 11, 12, 13, 14, 15, 16, 0] rfl
    have hD9 := hD.sub (ws' := ((a0, .inr (9, [g7, g8, g9, .ref a2, g10, g11, g12, g13, g14, g15, g16, g17, g18, g19, g20, .ref a3, g21, g22, g23, g24, g25, g26, g27, g28, g29, g30, g31, g32, g33, g34])) :: bX11 a2 uq kq q_q ([(a3, .inl (cB36, 26, .inl m_v))]))) [1, 2, 3, 4, 5, 6, 7, 8, 9, 10, 11, 12, 13, 14, 15, 16, 0] (by decide) rfl
    have hK9 := hK.sub (tys' := []) [] rfl
    rw [hQQ]
    exact W.iret (v := (1 : Int32)) hx hb hr (fun t ht hW => ⟨⟨(1 : Int32), (), rfl, rfl, by rw [ht]; exact hP9, va_K.moved hW.alike hK9, hD9⟩, hS.F ht⟩) hS.2.2 dX12_refusesSure_28
theorem dX11_questions_0 : decode cX11_questions 0 = .ok (.aload_n 0, 1) := by decide +kernel
theorem dX11_questions_1 : decode cX11_questions 1 = .ok (.getfield 87, 3) := by decide +kernel
theorem dX11_questions_10 : decode cX11_questions 10 = .ok (.getfield 93, 3) := by decide +kernel
theorem dX11_questions_13 : decode cX11_questions 13 = .ok (.imul, 1) := by decide +kernel
theorem dX11_questions_14 : decode cX11_questions 14 = .ok (.ireturn, 1) := by decide +kernel
theorem dX11_questions_4 : decode cX11_questions 4 = .ok (.aload_n 0, 1) := by decide +kernel
theorem dX11_questions_5 : decode cX11_questions 5 = .ok (.getfield 90, 3) := by decide +kernel
theorem dX11_questions_8 : decode cX11_questions 8 = .ok (.imul, 1) := by decide +kernel
theorem dX11_questions_9 : decode cX11_questions 9 = .ok (.aload_n 0, 1) := by decide +kernel
def vfX11_questions : List Cond := List.cons (.code yX11_questions cX11_questions 1 (some .int)) (apW [.fieldLink RX11 87 "HookPierModel$Pier" "spots" "I", .fieldLink RX11 90 "HookPierModel$Pier" "deep" "I", .fieldLink RX11 93 "HookPierModel$Pier" "baits" "I"] (wsX110))
theorem ifX11_questions_X11 : ∀ w ∈ wsX110, w ∈ vfX11_questions := fun _ h => (List.mem_cons_of_mem _ (List.mem_append_right _ h))
theorem qfX11_questions : Good vfX11_questions := gd_cons (by decide +kernel) (gd_app (gd_dec (by decide +kernel) : Good [.fieldLink RX11 87 "HookPierModel$Pier" "spots" "I", .fieldLink RX11 90 "HookPierModel$Pier" "deep" "I", .fieldLink RX11 93 "HookPierModel$Pier" "baits" "I"]) qsX11)
set_option maxHeartbeats 2000000 in
set_option maxRecDepth 100000 in
theorem kfX11_questions (l : Launch) (dC : Nat → ClassId) (dI : Nat → Nat → Nat) (a0 : Nat) (uq : Nat → Nat) (kq : Nat → ClassId) (q_q : TX11_q) (sz : Nat) (out : Int32) (h : f_X11_questions q_q = out) : Met l yX11_questions vfX11_questions ({ frames := 0, cells := 0, slots := 0, locals := 0 }) (PC (dC, dI) [.ref a0] sz (bX11 a0 uq kq q_q []) (tX11 kq ([]))) (va_Qi (S := Unit) (fun (r : Int32) _ => r = out) (fun _ t => BC (dC, dI) (va_A (bX11 a0 uq kq q_q []) sz) (bX11 a0 uq kq q_q []) [] t) (va_A (bX11 a0 uq kq q_q []) sz)) 0 0 (va_A (bX11 a0 uq kq q_q []) sz) := by
  refine Met.ofW (cc := cX11_questions) (maxL := 1) (ret := (some .int)) (by decide) rfl ?_
  intro p e s m args below meth c s₁ B0 hml hv
  obtain ⟨rfl, hsz, hP, hK, hD0, hN⟩ := hv
  have hx := B0.exec
  have hb := B0.bytes
  have hr := B0.returns
  have hts := atoms_spec (ws := vfX11_questions) B0.pre
  have hown : s.vm.findClass RX11 = some m.cls := findClass_of_methodNamed B0.named
  have hlocks := B0.notSynchronized
  subst hsz
  have hD := hD0.self (sz := s.heap.size)
  generalize hAe : va_A (bX11 a0 uq kq q_q []) s.heap.size = A at hD ⊢
  have hA : ∀ q : Nat, s.heap.size ≤ q → A q := fun q h => by rw [← hAe]; exact Or.inr h
  have hS : va_S A s.heap s.heap [] := va_S.rf
  have hP : va_P (dC, dI) vwCl (bX11 a0 uq kq q_q []) s.heap := hP
  have hl := lv_entry ([.ref a0]) (n := 1) (Nat.le_of_ble_eq_true rfl)
  rw [lg_entry_eq]
  generalize (lg_sl ([.ref a0]) ++ List.replicate (1 - (lg_sl ([.ref a0])).length) Slot.unset).toArray = ls at hl ⊢
  have hl : lv_has ls 1 [(0, .ref a0)] := hl
  refine W_q (fun QQ hQQ => ?_)
  rw [f_X11_questions] at h
  refine lv_aload_n hx hb dX11_questions_0 rfl (lv_at hl 0 rfl) ?_
  refine va_get (D := (dC, dI)) (ci := 8) (v := .int q_q.1) (C := RX11) (T := TX11) (N := 24) hx hb hts ifX11_questions_X11 hown hK hP 0 rfl rfl 0 (by decide) (hts (.fieldLink RX11 87 "HookPierModel$Pier" "spots" "I") (List.mem_of_getElem? (i := 1) rfl)) (fun _ h9 => h9) rfl dX11_questions_1 ?_
  refine lv_aload_n hx hb dX11_questions_4 rfl (lv_at hl 0 rfl) ?_
  refine va_get (D := (dC, dI)) (ci := 8) (v := .int q_q.2.1) (C := RX11) (T := TX11) (N := 24) hx hb hts ifX11_questions_X11 hown hK hP 0 rfl rfl 1 (by decide) (hts (.fieldLink RX11 90 "HookPierModel$Pier" "deep" "I") (List.mem_of_getElem? (i := 2) rfl)) (fun _ h9 => h9) rfl dX11_questions_5 ?_
  refine lv_imul hx hb dX11_questions_8 ?_
  refine lv_aload_n hx hb dX11_questions_9 rfl (lv_at hl 0 rfl) ?_
  refine va_get (D := (dC, dI)) (ci := 8) (v := .int q_q.2.2.2.2.1) (C := RX11) (T := TX11) (N := 24) hx hb hts ifX11_questions_X11 hown hK hP 0 rfl rfl 4 (by decide) (hts (.fieldLink RX11 93 "HookPierModel$Pier" "baits" "I") (List.mem_of_getElem? (i := 3) rfl)) (fun _ h9 => h9) rfl dX11_questions_10 ?_
  refine lv_imul hx hb dX11_questions_13 ?_
  obtain rfl := h
  have hP9 := hP.sub (ws' := (bX11 a0 uq kq q_q [])) [0, 1, 2, 3, 4, 5, 6, 7, 8, 9, 10, 11, 12, 13, 14] rfl
  have hD9 := hD.sub (ws' := (bX11 a0 uq kq q_q [])) [0, 1, 2, 3, 4, 5, 6, 7, 8, 9, 10, 11, 12, 13, 14] (by decide) rfl
  have hK9 := hK.sub (tys' := []) [] rfl
  rw [hQQ]
  exact W.iret (v := ((q_q.1 * q_q.2.1) * q_q.2.2.2.2.1)) hx hb hr (fun t ht hW => ⟨⟨((q_q.1 * q_q.2.1) * q_q.2.2.2.2.1), (), rfl, rfl, by rw [ht]; exact hP9, va_K.moved hW.alike hK9, hD9⟩, hS.F ht⟩) hS.2.2 dX11_questions_14
theorem dX12_sureQuestion_0 : decode cX12_sureQuestion 0 = .ok (.bipush (-2), 2) := by decide +kernel
theorem dX12_sureQuestion_10 : decode cX12_sureQuestion 10 = .ok (.aload_n 0, 1) := by decide +kernel
theorem dX12_sureQuestion_11 : decode cX12_sureQuestion 11 = .ok (.getfield 299, 3) := by decide +kernel
theorem dX12_sureQuestion_14 : decode cX12_sureQuestion 14 = .ok (.invokevirtual 374, 3) := by decide +kernel
theorem dX12_sureQuestion_17 : decode cX12_sureQuestion 17 = .ok (.if_icmp .ge 35, 3) := by decide +kernel
theorem dX12_sureQuestion_2 : decode cX12_sureQuestion 2 = .ok (.istore_n 2, 1) := by decide +kernel
theorem dX12_sureQuestion_20 : decode cX12_sureQuestion 20 = .ok (.aload_n 0, 1) := by decide +kernel
theorem dX12_sureQuestion_21 : decode cX12_sureQuestion 21 = .ok (.iload_n 1, 1) := by decide +kernel
theorem dX12_sureQuestion_22 : decode cX12_sureQuestion 22 = .ok (.iload 5, 2) := by decide +kernel
theorem dX12_sureQuestion_24 : decode cX12_sureQuestion 24 = .ok (.invokevirtual 349, 3) := by decide +kernel
theorem dX12_sureQuestion_27 : decode cX12_sureQuestion 27 = .ok (.lload_n 3, 1) := by decide +kernel
theorem dX12_sureQuestion_28 : decode cX12_sureQuestion 28 = .ok (.lcmp, 1) := by decide +kernel
theorem dX12_sureQuestion_29 : decode cX12_sureQuestion 29 = .ok (.ifCond .gt 6, 3) := by decide +kernel
theorem dX12_sureQuestion_3 : decode cX12_sureQuestion 3 = .ok (.lconst 0, 1) := by decide +kernel
theorem dX12_sureQuestion_32 : decode cX12_sureQuestion 32 = .ok (.goto 14, 3) := by decide +kernel
theorem dX12_sureQuestion_35 : decode cX12_sureQuestion 35 = .ok (.aload_n 0, 1) := by decide +kernel
theorem dX12_sureQuestion_36 : decode cX12_sureQuestion 36 = .ok (.iload_n 1, 1) := by decide +kernel
theorem dX12_sureQuestion_37 : decode cX12_sureQuestion 37 = .ok (.iload 5, 2) := by decide +kernel
theorem dX12_sureQuestion_39 : decode cX12_sureQuestion 39 = .ok (.invokevirtual 349, 3) := by decide +kernel
theorem dX12_sureQuestion_4 : decode cX12_sureQuestion 4 = .ok (.lstore_n 3, 1) := by decide +kernel
theorem dX12_sureQuestion_42 : decode cX12_sureQuestion 42 = .ok (.lstore_n 3, 1) := by decide +kernel
theorem dX12_sureQuestion_43 : decode cX12_sureQuestion 43 = .ok (.iload 5, 2) := by decide +kernel
theorem dX12_sureQuestion_45 : decode cX12_sureQuestion 45 = .ok (.istore_n 2, 1) := by decide +kernel
theorem dX12_sureQuestion_46 : decode cX12_sureQuestion 46 = .ok (.iinc 5 1, 3) := by decide +kernel
theorem dX12_sureQuestion_49 : decode cX12_sureQuestion 49 = .ok (.goto (-41), 3) := by decide +kernel
theorem dX12_sureQuestion_5 : decode cX12_sureQuestion 5 = .ok (.iconst 0, 1) := by decide +kernel
theorem dX12_sureQuestion_52 : decode cX12_sureQuestion 52 = .ok (.iload_n 2, 1) := by decide +kernel
theorem dX12_sureQuestion_53 : decode cX12_sureQuestion 53 = .ok (.ireturn, 1) := by decide +kernel
theorem dX12_sureQuestion_6 : decode cX12_sureQuestion 6 = .ok (.istore 5, 2) := by decide +kernel
theorem dX12_sureQuestion_8 : decode cX12_sureQuestion 8 = .ok (.iload 5, 2) := by decide +kernel
def vfX12_sureQuestion : List Cond := List.cons (.code yX12_sureQuestion cX12_sureQuestion 6 (some .int)) (apW [.fieldLink RX12 299 "HookPierModel" "pier" "LHookPierModel$Pier;", .methodLink RX12 374 yX11_questions, .instanceMethod yX11_questions, .selects RX11 yX11_questions yX11_questions, .initialized RX11, .methodLink RX12 349 yX12_oddsOf, .instanceMethod yX12_oddsOf, .selects RX12 yX12_oddsOf yX12_oddsOf, .initialized RX12] (apW wsX120 (apW vfX11_questions (vfX12_oddsOf))))
theorem ifX12_sureQuestion_X12 : ∀ w ∈ wsX120, w ∈ vfX12_sureQuestion := fun _ h => (List.mem_cons_of_mem _ (List.mem_append_right _ (List.mem_append_left _ h)))
theorem qfX12_sureQuestion : Good vfX12_sureQuestion := gd_cons (by decide +kernel) (gd_app (gd_dec (by decide +kernel) : Good [.fieldLink RX12 299 "HookPierModel" "pier" "LHookPierModel$Pier;", .methodLink RX12 374 yX11_questions, .instanceMethod yX11_questions, .selects RX11 yX11_questions yX11_questions, .initialized RX11, .methodLink RX12 349 yX12_oddsOf, .instanceMethod yX12_oddsOf, .selects RX12 yX12_oddsOf yX12_oddsOf, .initialized RX12]) (gd_app qsX12 (gd_app qfX11_questions qfX12_oddsOf)))
theorem gfX12_sureQuestion_0 : GoodIn vfX12_sureQuestion (wsV RX12 374 RX11 yX11_questions vfX11_questions) := goodIn_app (goodIn_r [.methodLink RX12 374 yX11_questions, .instanceMethod yX11_questions, .selects RX11 yX11_questions yX11_questions, .initialized RX11] [2, 3, 4, 5] rfl (by decide +kernel)) (goodIn_m (fun _ h => (List.mem_cons_of_mem _ (List.mem_append_right _ (List.mem_append_right _ (List.mem_append_left _ h))))) qfX11_questions)
theorem gfX12_sureQuestion_1 : GoodIn vfX12_sureQuestion (wsV RX12 349 RX12 yX12_oddsOf vfX12_oddsOf) := goodIn_app (goodIn_r [.methodLink RX12 349 yX12_oddsOf, .instanceMethod yX12_oddsOf, .selects RX12 yX12_oddsOf yX12_oddsOf, .initialized RX12] [6, 7, 8, 9] rfl (by decide +kernel)) (goodIn_m (fun _ h => (List.mem_cons_of_mem _ (List.mem_append_right _ (List.mem_append_right _ (List.mem_append_right _ h))))) qfX12_oddsOf)
set_option maxHeartbeats 2000000 in
set_option maxRecDepth 100000 in
theorem kfX12_sureQuestion (l : Launch) (dC : Nat → ClassId) (dI : Nat → Nat → Nat) (a0 : Nat) (k1 : Int32) (a2 : Nat) (a3 : Nat) (uq : Nat → Nat) (kq : Nat → ClassId) (m_v : TX12_v) (g7 : Value) (g8 : Value) (g9 : Value) (g10 : Value) (g11 : Value) (g12 : Value) (g13 : Value) (g14 : Value) (g15 : Value) (g16 : Value) (g17 : Value) (g18 : Value) (g19 : Value) (g20 : Value) (g21 : Value) (g22 : Value) (g23 : Value) (g24 : Value) (g25 : Value) (g26 : Value) (g27 : Value) (g28 : Value) (g29 : Value) (g30 : Value) (g31 : Value) (g32 : Value) (g33 : Value) (g34 : Value) (q_q : TX11_q) (cB36 : ClassId) (sz : Nat) (out : Int32) (h : f_X12_sureQuestion k1 m_v q_q = some out) : Met l yX12_sureQuestion vfX12_sureQuestion ({ frames := 5, cells := 0, slots := 0, locals := 118 }) (PC (dC, dI) [.ref a0, .int k1] sz ((a0, .inr (9, [g7, g8, g9, .ref a2, g10, g11, g12, g13, g14, g15, g16, g17, g18, g19, g20, .ref a3, g21, g22, g23, g24, g25, g26, g27, g28, g29, g30, g31, g32, g33, g34])) :: bX11 a2 uq kq q_q ([(a3, .inl (cB36, 26, .inl m_v))])) (tX11 kq ((cB36, .int) :: []))) (va_Qi (S := Unit) (fun (r : Int32) _ => r = out) (fun _ t => BC (dC, dI) (va_A ((a0, .inr (9, [g7, g8, g9, .ref a2, g10, g11, g12, g13, g14, g15, g16, g17, g18, g19, g20, .ref a3, g21, g22, g23, g24, g25, g26, g27, g28, g29, g30, g31, g32, g33, g34])) :: bX11 a2 uq kq q_q ([(a3, .inl (cB36, 26, .inl m_v))])) sz) ((a0, .inr (9, [g7, g8, g9, .ref a2, g10, g11, g12, g13, g14, g15, g16, g17, g18, g19, g20, .ref a3, g21, g22, g23, g24, g25, g26, g27, g28, g29, g30, g31, g32, g33, g34])) :: bX11 a2 uq kq q_q ([(a3, .inl (cB36, 26, .inl m_v))])) [] t) (va_A ((a0, .inr (9, [g7, g8, g9, .ref a2, g10, g11, g12, g13, g14, g15, g16, g17, g18, g19, g20, .ref a3, g21, g22, g23, g24, g25, g26, g27, g28, g29, g30, g31, g32, g33, g34])) :: bX11 a2 uq kq q_q ([(a3, .inl (cB36, 26, .inl m_v))])) sz)) 0 0 (va_A ((a0, .inr (9, [g7, g8, g9, .ref a2, g10, g11, g12, g13, g14, g15, g16, g17, g18, g19, g20, .ref a3, g21, g22, g23, g24, g25, g26, g27, g28, g29, g30, g31, g32, g33, g34])) :: bX11 a2 uq kq q_q ([(a3, .inl (cB36, 26, .inl m_v))])) sz) := by
  refine Met.ofW (cc := cX12_sureQuestion) (maxL := 6) (ret := (some .int)) (by decide) rfl ?_
  intro p e s m args below meth c s₁ B0 hml hv
  obtain ⟨rfl, hsz, hP, hK, hD0, hN⟩ := hv
  have hx := B0.exec
  have hb := B0.bytes
  have hr := B0.returns
  have hts := atoms_spec (ws := vfX12_sureQuestion) B0.pre
  have hown : s.vm.findClass RX12 = some m.cls := findClass_of_methodNamed B0.named
  have hlocks := B0.notSynchronized
  subst hsz
  have hD := hD0.self (sz := s.heap.size)
  generalize hAe : va_A ((a0, .inr (9, [g7, g8, g9, .ref a2, g10, g11, g12, g13, g14, g15, g16, g17, g18, g19, g20, .ref a3, g21, g22, g23, g24, g25, g26, g27, g28, g29, g30, g31, g32, g33, g34])) :: bX11 a2 uq kq q_q ([(a3, .inl (cB36, 26, .inl m_v))])) s.heap.size = A at hD ⊢
  have hA : ∀ q : Nat, s.heap.size ≤ q → A q := fun q h => by rw [← hAe]; exact Or.inr h
  have hS : va_S A s.heap s.heap [] := va_S.rf
  have hP : va_P (dC, dI) vwCl ((a0, .inr (9, [g7, g8, g9, .ref a2, g10, g11, g12, g13, g14, g15, g16, g17, g18, g19, g20, .ref a3, g21, g22, g23, g24, g25, g26, g27, g28, g29, g30, g31, g32, g33, g34])) :: bX11 a2 uq kq q_q ([(a3, .inl (cB36, 26, .inl m_v))])) s.heap := hP
  have hl := lv_entry ([.ref a0, .int k1]) (n := 6) (Nat.le_of_ble_eq_true rfl)
  rw [lg_entry_eq]
  generalize (lg_sl ([.ref a0, .int k1]) ++ List.replicate (6 - (lg_sl ([.ref a0, .int k1])).length) Slot.unset).toArray = ls at hl ⊢
  have hl : lv_has ls 6 [(0, .ref a0), (1, .int k1)] := hl
  refine W_q (fun QQ hQQ => ?_)
  rw [f_X12_sureQuestion] at h
  refine lv_bipush (v := (-2)) hx hb dX12_sureQuestion_0 (by decide) ?_
  refine lv_istore_n (lv' := [(2, .int (-2)), (0, .ref a0), (1, .int k1)]) hx hb dX12_sureQuestion_2 rfl hl (by decide) rfl (fun ls hl => ?_)
  refine lv_lconst (v := 0) hx hb dX12_sureQuestion_3 (by decide) ?_
  refine lv_lstore_n (lv' := [(3, .long 0), (2, .int (-2)), (0, .ref a0), (1, .int k1)]) hx hb dX12_sureQuestion_4 rfl hl (by decide) rfl (fun ls hl => ?_)
  refine lv_iconst (v := 0) hx hb dX12_sureQuestion_5 (by decide) ?_
  refine lv_istore (lv' := [(5, .int 0), (3, .long 0), (2, .int (-2)), (0, .ref a0), (1, .int k1)]) hx hb dX12_sureQuestion_6 hl (by decide) rfl (fun ls hl => ?_)
  have L8 : ∀ (n8 : Nat) (v8_l5 : Int32) (v8_l3 : Int64) (v8_l2 : Int32) (H : Heap) (locs : List Loc) (ls : Array Slot), f_X12_sureQuestion_L8 k1 m_v q_q n8 v8_l5 v8_l3 v8_l2 = some out → va_P (dC, dI) vwCl ((a0, .inr (9, [g7, g8, g9, .ref a2, g10, g11, g12, g13, g14, g15, g16, g17, g18, g19, g20, .ref a3, g21, g22, g23, g24, g25, g26, g27, g28, g29, g30, g31, g32, g33, g34])) :: bX11 a2 uq kq q_q ([(a3, .inl (cB36, 26, .inl m_v))])) H → va_D A ((a0, .inr (9, [g7, g8, g9, .ref a2, g10, g11, g12, g13, g14, g15, g16, g17, g18, g19, g20, .ref a3, g21, g22, g23, g24, g25, g26, g27, g28, g29, g30, g31, g32, g33, g34])) :: bX11 a2 uq kq q_q ([(a3, .inl (cB36, 26, .inl m_v))])) → va_S A s.heap H locs → lv_has ls 6 [(5, .int v8_l5), (3, .long v8_l3), (2, .int v8_l2), (0, .ref a0), (1, .int k1)] → W p l e (headSpec vfX12_sureQuestion { frames := 5, cells := 0, slots := 0, locals := 118 }).room s m ([.ref a0, .int k1]).toArray below meth c H locs 0 0 QQ (F0 m 8 ls []) := by
    intro n8
    induction n8 with
    | zero =>
      intro v8_l5 v8_l3 v8_l2 H locs ls h  _ _ _ _
      rw [f_X12_sureQuestion_L8] at h
      cases h
    | succ n8 ih8 =>
      intro v8_l5 v8_l3 v8_l2 H locs ls h  hP hD hS hl
      rw [f_X12_sureQuestion_L8] at h
      refine lv_iload hx hb dX12_sureQuestion_8 (lv_at hl 0 rfl) ?_
      refine lv_aload_n hx hb dX12_sureQuestion_10 rfl (lv_at hl 3 rfl) ?_
      refine va_get (D := (dC, dI)) (ci := 9) (v := .ref a2) (C := RX12) (T := TX12) (N := 30) hx hb hts ifX12_sureQuestion_X12 hown hK hP 0 rfl rfl 3 (by decide) (hts (.fieldLink RX12 299 "HookPierModel" "pier" "LHookPierModel$Pier;") (List.mem_of_getElem? (i := 1) rfl)) (fun _ h9 => h9) rfl dX12_sureQuestion_11 ?_
      obtain ⟨o14, eo14⟩ : ∃ o, o = f_X11_questions q_q := ⟨_, rfl⟩
      have h := nm_of h o14 eo14
      refine cl_i (wc := (bX11 a2 uq kq q_q [])) (wr := ([(a0, .inr (9, [g7, g8, g9, .ref a2, g10, g11, g12, g13, g14, g15, g16, g17, g18, g19, g20, .ref a3, g21, g22, g23, g24, g25, g26, g27, g28, g29, g30, g31, g32, g33, g34])), (a3, .inl (cB36, 26, .inl m_v))])) (va_runV (As := []) (rest := [.int v8_l5]) ⟨hx, hb, hml, hown, hts⟩ (kfX11_questions l dC dI a2 uq kq q_q H.size o14 eo14.symm) (cwV 0 hts gfX12_sureQuestion_0 rfl rfl rfl (by decide +kernel) ⟨(Nat.le_of_ble_eq_true rfl), (Nat.le_of_ble_eq_true rfl)⟩) (PV (hP.sub (ws' := (bX11 a2 uq kq q_q [])) [1, 2, 3, 4, 5, 6, 7, 8, 9, 10, 11, 12, 13, 14, 15] rfl) (hK.sub (tys' := (tX11 kq ([]))) [0, 1, 2, 3, 4, 5, 6, 7, 8, 9, 10, 11, 12, 13] rfl) (hD.sub (ws' := (bX11 a2 uq kq q_q [])) [1, 2, 3, 4, 5, 6, 7, 8, 9, 10, 11, 12, 13, 14, 15] (by decide) rfl) hN 0 rfl rfl) rfl rfl hl.1 rfl (lv_room (Nat.le_of_ble_eq_true rfl)) dX12_sureQuestion_14 ⟨(Nat.le_of_ble_eq_true rfl), (Nat.le_of_ble_eq_true rfl)⟩) hP hD hK hS hA [1, 2, 3, 4, 5, 6, 7, 8, 9, 10, 11, 12, 13, 14, 15] [0, 16] rfl rfl (by decide) (by decide) (fun r14 _ H locs hw hP hD _ hS => ?_)
      obtain rfl := hw.symm
      have hP : va_P (dC, dI) vwCl ((a0, .inr (9, [g7, g8, g9, .ref a2, g10, g11, g12, g13, g14, g15, g16, g17, g18, g19, g20, .ref a3, g21, g22, g23, g24, g25, g26, g27, g28, g29, g30, g31, g32, g33, g34])) :: (a3, .inl (cB36, 26, .inl m_v)) :: bX11 a2 uq kq q_q []) H := hP
      have hD : va_D A ((a0, .inr (9, [g7, g8, g9, .ref a2, g10, g11, g12, g13, g14, g15, g16, g17, g18, g19, g20, .ref a3, g21, g22, g23, g24, g25, g26, g27, g28, g29, g30, g31, g32, g33, g34])) :: (a3, .inl (cB36, 26, .inl m_v)) :: bX11 a2 uq kq q_q []) := hD
      refine lv_icmp_ge (tgt := 52) hx hb dX12_sureQuestion_17 (by decide) (fun c17 => ?_) (fun c17 => ?_)
      · have h := (if_pos c17).symm.trans h
        refine lv_iload_n hx hb dX12_sureQuestion_52 rfl (lv_at hl 2 rfl) ?_
        obtain rfl := Option.some.inj h
        have hP9 := hP.sub (ws' := ((a0, .inr (9, [g7, g8, g9, .ref a2, g10, g11, g12, g13, g14, g15, g16, g17, g18, g19, g20, .ref a3, g21, g22, g23, g24, g25, g26, g27, g28, g29, g30, g31, g32, g33, g34])) :: bX11 a2 uq kq q_q ([(a3, .inl (cB36, 26, .inl m_v))]))) [0, 2, 3, 4, 5, 6, 7, 8, 9, 10, 11, 12, 13, 14, 15, 16, 1] rfl
        have hD9 := hD.sub (ws' := ((a0, .inr (9, [g7, g8, g9, .ref a2, g10, g11, g12, g13, g14, g15, g16, g17, g18, g19, g20, .ref a3, g21, g22, g23, g24, g25, g26, g27, g28, g29, g30, g31, g32, g33, g34])) :: bX11 a2 uq kq q_q ([(a3, .inl (cB36, 26, .inl m_v))]))) [0, 2, 3, 4, 5, 6, 7, 8, 9, 10, 11, 12, 13, 14, 15, 16, 1] (by decide) rfl
        have hK9 := hK.sub (tys' := []) [] rfl
        rw [hQQ]
        exact W.iret (v := v8_l2) hx hb hr (fun t ht hW => ⟨⟨v8_l2, (), rfl, rfl, by rw [ht]; exact hP9, va_K.moved hW.alike hK9, hD9⟩, hS.F ht⟩) hS.2.2 dX12_sureQuestion_53
      · have h := (if_neg c17).symm.trans h
        refine lv_aload_n hx hb dX12_sureQuestion_20 rfl (lv_at hl 3 rfl) ?_
        refine lv_iload_n hx hb dX12_sureQuestion_21 rfl (lv_at hl 4 rfl) ?_
        refine lv_iload hx hb dX12_sureQuestion_22 (lv_at hl 0 rfl) ?_
        obtain ⟨o24, eo24, h⟩ := bd_of h
        refine cl_l (wc := ((a0, .inr (9, [g7, g8, g9, .ref a2, g10, g11, g12, g13, g14, g15, g16, g17, g18, g19, g20, .ref a3, g21, g22, g23, g24, g25, g26, g27, g28, g29, g30, g31, g32, g33, g34])) :: bX11 a2 uq kq q_q ([(a3, .inl (cB36, 26, .inl m_v))]))) (wr := []) (va_runV (As := [.int k1, .int v8_l5]) (rest := []) ⟨hx, hb, hml, hown, hts⟩ (kfX12_oddsOf l dC dI a0 k1 v8_l5 a2 a3 uq kq m_v (g7) (g8) (g9) (g10) (g11) (g12) (g13) (g14) (g15) (g16) (g17) (g18) (g19) (g20) (g21) (g22) (g23) (g24) (g25) (g26) (g27) (g28) (g29) (g30) (g31) (g32) (g33) (g34) q_q cB36 H.size o24 eo24) (cwV 2 hts gfX12_sureQuestion_1 rfl rfl rfl (by decide +kernel) ⟨(Nat.le_of_ble_eq_true rfl), (Nat.le_of_ble_eq_true rfl)⟩) (PV (hP.sub (ws' := ((a0, .inr (9, [g7, g8, g9, .ref a2, g10, g11, g12, g13, g14, g15, g16, g17, g18, g19, g20, .ref a3, g21, g22, g23, g24, g25, g26, g27, g28, g29, g30, g31, g32, g33, g34])) :: bX11 a2 uq kq q_q ([(a3, .inl (cB36, 26, .inl m_v))]))) [0, 2, 3, 4, 5, 6, 7, 8, 9, 10, 11, 12, 13, 14, 15, 16, 1] rfl) (hK.sub (tys' := (tX11 kq ((cB36, .int) :: []))) [0, 1, 2, 3, 4, 5, 6, 7, 8, 9, 10, 11, 12, 13, 14] rfl) (hD.sub (ws' := ((a0, .inr (9, [g7, g8, g9, .ref a2, g10, g11, g12, g13, g14, g15, g16, g17, g18, g19, g20, .ref a3, g21, g22, g23, g24, g25, g26, g27, g28, g29, g30, g31, g32, g33, g34])) :: bX11 a2 uq kq q_q ([(a3, .inl (cB36, 26, .inl m_v))]))) [0, 2, 3, 4, 5, 6, 7, 8, 9, 10, 11, 12, 13, 14, 15, 16, 1] (by decide) rfl) hN 0 rfl rfl) rfl rfl hl.1 rfl (lv_room (Nat.le_of_ble_eq_true rfl)) dX12_sureQuestion_24 ⟨(Nat.le_of_ble_eq_true rfl), (Nat.le_of_ble_eq_true rfl)⟩) hP hD hK hS hA [0, 2, 3, 4, 5, 6, 7, 8, 9, 10, 11, 12, 13, 14, 15, 16, 1] [] rfl rfl (by decide) (by decide) (fun r24 _ H locs hw hP hD _ hS => ?_)
        obtain rfl := hw.symm
        have hP : va_P (dC, dI) vwCl ((a0, .inr (9, [g7, g8, g9, .ref a2, g10, g11, g12, g13, g14, g15, g16, g17, g18, g19, g20, .ref a3, g21, g22, g23, g24, g25, g26, g27, g28, g29, g30, g31, g32, g33, g34])) :: bX11 a2 uq kq q_q ([(a3, .inl (cB36, 26, .inl m_v))])) H := hP
        have hD : va_D A ((a0, .inr (9, [g7, g8, g9, .ref a2, g10, g11, g12, g13, g14, g15, g16, g17, g18, g19, g20, .ref a3, g21, g22, g23, g24, g25, g26, g27, g28, g29, g30, g31, g32, g33, g34])) :: bX11 a2 uq kq q_q ([(a3, .inl (cB36, 26, .inl m_v))])) := hD
        refine lv_lload_n hx hb dX12_sureQuestion_27 rfl (lv_at hl 1 rfl) ?_
        refine W.lcmp hx hb dX12_sureQuestion_28 ?_
        have J46 : ∀ (v46_l2 : Int32) (v46_l3 : Int64) (H : Heap) (locs : List Loc) (ls : Array Slot), f_X12_sureQuestion_J46 (f_X12_sureQuestion_L8 k1 m_v q_q n8) v8_l5 v46_l2 v46_l3 = some out → va_P (dC, dI) vwCl ((a0, .inr (9, [g7, g8, g9, .ref a2, g10, g11, g12, g13, g14, g15, g16, g17, g18, g19, g20, .ref a3, g21, g22, g23, g24, g25, g26, g27, g28, g29, g30, g31, g32, g33, g34])) :: bX11 a2 uq kq q_q ([(a3, .inl (cB36, 26, .inl m_v))])) H → va_D A ((a0, .inr (9, [g7, g8, g9, .ref a2, g10, g11, g12, g13, g14, g15, g16, g17, g18, g19, g20, .ref a3, g21, g22, g23, g24, g25, g26, g27, g28, g29, g30, g31, g32, g33, g34])) :: bX11 a2 uq kq q_q ([(a3, .inl (cB36, 26, .inl m_v))])) → va_S A s.heap H locs → lv_has ls 6 [(2, .int v46_l2), (3, .long v46_l3), (5, .int v8_l5), (0, .ref a0), (1, .int k1)] → W p l e (headSpec vfX12_sureQuestion { frames := 5, cells := 0, slots := 0, locals := 118 }).room s m ([.ref a0, .int k1]).toArray below meth c H locs 0 0 QQ (F0 m 46 ls []) := by
          intro v46_l2 v46_l3 H locs ls h  hP hD hS hl
          rw [f_X12_sureQuestion_J46] at h
          refine lv_iinc (v := (v8_l5 + (1 : Int32))) (lv' := [(5, .int (v8_l5 + (1 : Int32))), (2, .int v46_l2), (3, .long v46_l3), (0, .ref a0), (1, .int k1)]) hx hb dX12_sureQuestion_46 hl (k := 2) rfl rfl (by decide) rfl (fun ls hl => ?_)
          refine lv_goto (tgt := 8) hx hb dX12_sureQuestion_49 (by decide) ?_
          exact ih8 (v8_l5 + (1 : Int32)) v46_l3 v46_l2 H _ ls h  hP hD hS (lv_sub hl [0, 2, 1, 3, 4] rfl)
        refine lv_if_gt (tgt := 35) hx hb dX12_sureQuestion_29 (by decide) (fun c29 => ?_) (fun c29 => ?_)
        · have h := (if_pos c29).symm.trans h
          refine lv_aload_n hx hb dX12_sureQuestion_35 rfl (lv_at hl 3 rfl) ?_
          refine lv_iload_n hx hb dX12_sureQuestion_36 rfl (lv_at hl 4 rfl) ?_
          refine lv_iload hx hb dX12_sureQuestion_37 (lv_at hl 0 rfl) ?_
          obtain ⟨o39, eo39, h⟩ := bd_of h
          refine cl_l (wc := ((a0, .inr (9, [g7, g8, g9, .ref a2, g10, g11, g12, g13, g14, g15, g16, g17, g18, g19, g20, .ref a3, g21, g22, g23, g24, g25, g26, g27, g28, g29, g30, g31, g32, g33, g34])) :: bX11 a2 uq kq q_q ([(a3, .inl (cB36, 26, .inl m_v))]))) (wr := []) (va_runV (As := [.int k1, .int v8_l5]) (rest := []) ⟨hx, hb, hml, hown, hts⟩ (kfX12_oddsOf l dC dI a0 k1 v8_l5 a2 a3 uq kq m_v (g7) (g8) (g9) (g10) (g11) (g12) (g13) (g14) (g15) (g16) (g17) (g18) (g19) (g20) (g21) (g22) (g23) (g24) (g25) (g26) (g27) (g28) (g29) (g30) (g31) (g32) (g33) (g34) q_q cB36 H.size o39 eo39) (cwV 2 hts gfX12_sureQuestion_1 rfl rfl rfl (by decide +kernel) ⟨(Nat.le_of_ble_eq_true rfl), (Nat.le_of_ble_eq_true rfl)⟩) (PV (hP.sub (ws' := ((a0, .inr (9, [g7, g8, g9, .ref a2, g10, g11, g12, g13, g14, g15, g16, g17, g18, g19, g20, .ref a3, g21, g22, g23, g24, g25, g26, g27, g28, g29, g30, g31, g32, g33, g34])) :: bX11 a2 uq kq q_q ([(a3, .inl (cB36, 26, .inl m_v))]))) [0, 1, 2, 3, 4, 5, 6, 7, 8, 9, 10, 11, 12, 13, 14, 15, 16] rfl) (hK.sub (tys' := (tX11 kq ((cB36, .int) :: []))) [0, 1, 2, 3, 4, 5, 6, 7, 8, 9, 10, 11, 12, 13, 14] rfl) (hD.sub (ws' := ((a0, .inr (9, [g7, g8, g9, .ref a2, g10, g11, g12, g13, g14, g15, g16, g17, g18, g19, g20, .ref a3, g21, g22, g23, g24, g25, g26, g27, g28, g29, g30, g31, g32, g33, g34])) :: bX11 a2 uq kq q_q ([(a3, .inl (cB36, 26, .inl m_v))]))) [0, 1, 2, 3, 4, 5, 6, 7, 8, 9, 10, 11, 12, 13, 14, 15, 16] (by decide) rfl) hN 0 rfl rfl) rfl rfl hl.1 rfl (lv_room (Nat.le_of_ble_eq_true rfl)) dX12_sureQuestion_39 ⟨(Nat.le_of_ble_eq_true rfl), (Nat.le_of_ble_eq_true rfl)⟩) hP hD hK hS hA [0, 1, 2, 3, 4, 5, 6, 7, 8, 9, 10, 11, 12, 13, 14, 15, 16] [] rfl rfl (by decide) (by decide) (fun r39 _ H locs hw hP hD _ hS => ?_)
          obtain rfl := hw.symm
          have hP : va_P (dC, dI) vwCl ((a0, .inr (9, [g7, g8, g9, .ref a2, g10, g11, g12, g13, g14, g15, g16, g17, g18, g19, g20, .ref a3, g21, g22, g23, g24, g25, g26, g27, g28, g29, g30, g31, g32, g33, g34])) :: bX11 a2 uq kq q_q ([(a3, .inl (cB36, 26, .inl m_v))])) H := hP
          have hD : va_D A ((a0, .inr (9, [g7, g8, g9, .ref a2, g10, g11, g12, g13, g14, g15, g16, g17, g18, g19, g20, .ref a3, g21, g22, g23, g24, g25, g26, g27, g28, g29, g30, g31, g32, g33, g34])) :: bX11 a2 uq kq q_q ([(a3, .inl (cB36, 26, .inl m_v))])) := hD
          refine lv_lstore_n (lv' := [(3, .long o39), (5, .int v8_l5), (2, .int v8_l2), (0, .ref a0), (1, .int k1)]) hx hb dX12_sureQuestion_42 rfl hl (by decide) rfl (fun ls hl => ?_)
          refine lv_iload hx hb dX12_sureQuestion_43 (lv_at hl 1 rfl) ?_
          refine lv_istore_n (lv' := [(2, .int v8_l5), (3, .long o39), (5, .int v8_l5), (0, .ref a0), (1, .int k1)]) hx hb dX12_sureQuestion_45 rfl hl (by decide) rfl (fun ls hl => ?_)
          exact J46 v8_l5 o39 H _ ls h  hP hD hS (lv_sub hl [0, 1, 2, 3, 4] rfl)
        · have h := (if_neg c29).symm.trans h
          refine lv_goto (tgt := 46) hx hb dX12_sureQuestion_32 (by decide) ?_
          exact J46 v8_l2 v8_l3 H _ ls h  hP hD hS (lv_sub hl [2, 1, 0, 3, 4] rfl)
  exact L8 FU (0 : Int32) (0 : Int64) (-2 : Int32) s.heap _ ls h  hP hD hS (lv_sub hl [0, 1, 2, 3, 4] rfl)
theorem dX12_codeOf_0 : decode cX12_codeOf 0 = .ok (.bipush 100, 2) := by decide +kernel
theorem dX12_codeOf_10 : decode cX12_codeOf 10 = .ok (.aload_n 0, 1) := by decide +kernel
theorem dX12_codeOf_11 : decode cX12_codeOf 11 = .ok (.iload_n 1, 1) := by decide +kernel
theorem dX12_codeOf_12 : decode cX12_codeOf 12 = .ok (.invokevirtual 310, 3) := by decide +kernel
theorem dX12_codeOf_15 : decode cX12_codeOf 15 = .ok (.imul, 1) := by decide +kernel
theorem dX12_codeOf_16 : decode cX12_codeOf 16 = .ok (.iadd, 1) := by decide +kernel
theorem dX12_codeOf_17 : decode cX12_codeOf 17 = .ok (.aload_n 0, 1) := by decide +kernel
theorem dX12_codeOf_18 : decode cX12_codeOf 18 = .ok (.iload_n 1, 1) := by decide +kernel
theorem dX12_codeOf_19 : decode cX12_codeOf 19 = .ok (.invokevirtual 313, 3) := by decide +kernel
theorem dX12_codeOf_2 : decode cX12_codeOf 2 = .ok (.aload_n 0, 1) := by decide +kernel
theorem dX12_codeOf_22 : decode cX12_codeOf 22 = .ok (.iadd, 1) := by decide +kernel
theorem dX12_codeOf_23 : decode cX12_codeOf 23 = .ok (.ireturn, 1) := by decide +kernel
theorem dX12_codeOf_3 : decode cX12_codeOf 3 = .ok (.iload_n 1, 1) := by decide +kernel
theorem dX12_codeOf_4 : decode cX12_codeOf 4 = .ok (.invokevirtual 307, 3) := by decide +kernel
theorem dX12_codeOf_7 : decode cX12_codeOf 7 = .ok (.imul, 1) := by decide +kernel
theorem dX12_codeOf_8 : decode cX12_codeOf 8 = .ok (.bipush 10, 2) := by decide +kernel
def vfX12_codeOf : List Cond := List.cons (.code yX12_codeOf cX12_codeOf 2 (some .int)) (apW [.methodLink RX12 307 yX12_spotOf, .instanceMethod yX12_spotOf, .selects RX12 yX12_spotOf yX12_spotOf, .initialized RX12, .methodLink RX12 310 yX12_fathomsOf, .instanceMethod yX12_fathomsOf, .selects RX12 yX12_fathomsOf yX12_fathomsOf, .methodLink RX12 313 yX12_baitOf, .instanceMethod yX12_baitOf, .selects RX12 yX12_baitOf yX12_baitOf] (apW vfX12_spotOf (apW vfX12_fathomsOf (vfX12_baitOf))))
theorem qfX12_codeOf : Good vfX12_codeOf := gd_cons (by decide +kernel) (gd_app (gd_dec (by decide +kernel) : Good [.methodLink RX12 307 yX12_spotOf, .instanceMethod yX12_spotOf, .selects RX12 yX12_spotOf yX12_spotOf, .initialized RX12, .methodLink RX12 310 yX12_fathomsOf, .instanceMethod yX12_fathomsOf, .selects RX12 yX12_fathomsOf yX12_fathomsOf, .methodLink RX12 313 yX12_baitOf, .instanceMethod yX12_baitOf, .selects RX12 yX12_baitOf yX12_baitOf]) (gd_app qfX12_spotOf (gd_app qfX12_fathomsOf qfX12_baitOf)))
theorem gfX12_codeOf_0 : GoodIn vfX12_codeOf (wsV RX12 307 RX12 yX12_spotOf vfX12_spotOf) := goodIn_app (goodIn_r [.methodLink RX12 307 yX12_spotOf, .instanceMethod yX12_spotOf, .selects RX12 yX12_spotOf yX12_spotOf, .initialized RX12] [1, 2, 3, 4] rfl (by decide +kernel)) (goodIn_m (fun _ h => (List.mem_cons_of_mem _ (List.mem_append_right _ (List.mem_append_left _ h)))) qfX12_spotOf)
theorem gfX12_codeOf_1 : GoodIn vfX12_codeOf (wsV RX12 310 RX12 yX12_fathomsOf vfX12_fathomsOf) := goodIn_app (goodIn_r [.methodLink RX12 310 yX12_fathomsOf, .instanceMethod yX12_fathomsOf, .selects RX12 yX12_fathomsOf yX12_fathomsOf, .initialized RX12] [5, 6, 7, 4] rfl (by decide +kernel)) (goodIn_m (fun _ h => (List.mem_cons_of_mem _ (List.mem_append_right _ (List.mem_append_right _ (List.mem_append_left _ h))))) qfX12_fathomsOf)
theorem gfX12_codeOf_2 : GoodIn vfX12_codeOf (wsV RX12 313 RX12 yX12_baitOf vfX12_baitOf) := goodIn_app (goodIn_r [.methodLink RX12 313 yX12_baitOf, .instanceMethod yX12_baitOf, .selects RX12 yX12_baitOf yX12_baitOf, .initialized RX12] [8, 9, 10, 4] rfl (by decide +kernel)) (goodIn_m (fun _ h => (List.mem_cons_of_mem _ (List.mem_append_right _ (List.mem_append_right _ (List.mem_append_right _ h))))) qfX12_baitOf)
set_option maxHeartbeats 2000000 in
set_option maxRecDepth 100000 in
theorem kfX12_codeOf (l : Launch) (dC : Nat → ClassId) (dI : Nat → Nat → Nat) (a0 : Nat) (k1 : Int32) (a2 : Nat) (uq : Nat → Nat) (kq : Nat → ClassId) (g5 : Value) (g6 : Value) (g7 : Value) (g8 : Value) (g9 : Value) (g10 : Value) (g11 : Value) (g12 : Value) (g13 : Value) (g14 : Value) (g15 : Value) (g16 : Value) (g17 : Value) (g18 : Value) (g19 : Value) (g20 : Value) (g21 : Value) (g22 : Value) (g23 : Value) (g24 : Value) (g25 : Value) (g26 : Value) (g27 : Value) (g28 : Value) (g29 : Value) (g30 : Value) (g31 : Value) (g32 : Value) (g33 : Value) (q_q : TX11_q) (sz : Nat) (out : Int32) (h : f_X12_codeOf k1 q_q = some out) : Met l yX12_codeOf vfX12_codeOf ({ frames := 1, cells := 0, slots := 0, locals := 21 }) (PC (dC, dI) [.ref a0, .int k1] sz ((a0, .inr (9, [g5, g6, g7, .ref a2, g8, g9, g10, g11, g12, g13, g14, g15, g16, g17, g18, g19, g20, g21, g22, g23, g24, g25, g26, g27, g28, g29, g30, g31, g32, g33])) :: bX11 a2 uq kq q_q []) (tX11 kq ([]))) (va_Qi (S := Unit) (fun (r : Int32) _ => r = out) (fun _ t => BC (dC, dI) (va_A ((a0, .inr (9, [g5, g6, g7, .ref a2, g8, g9, g10, g11, g12, g13, g14, g15, g16, g17, g18, g19, g20, g21, g22, g23, g24, g25, g26, g27, g28, g29, g30, g31, g32, g33])) :: bX11 a2 uq kq q_q []) sz) ((a0, .inr (9, [g5, g6, g7, .ref a2, g8, g9, g10, g11, g12, g13, g14, g15, g16, g17, g18, g19, g20, g21, g22, g23, g24, g25, g26, g27, g28, g29, g30, g31, g32, g33])) :: bX11 a2 uq kq q_q []) [] t) (va_A ((a0, .inr (9, [g5, g6, g7, .ref a2, g8, g9, g10, g11, g12, g13, g14, g15, g16, g17, g18, g19, g20, g21, g22, g23, g24, g25, g26, g27, g28, g29, g30, g31, g32, g33])) :: bX11 a2 uq kq q_q []) sz)) 0 0 (va_A ((a0, .inr (9, [g5, g6, g7, .ref a2, g8, g9, g10, g11, g12, g13, g14, g15, g16, g17, g18, g19, g20, g21, g22, g23, g24, g25, g26, g27, g28, g29, g30, g31, g32, g33])) :: bX11 a2 uq kq q_q []) sz) := by
  refine Met.ofW (cc := cX12_codeOf) (maxL := 2) (ret := (some .int)) (by decide) rfl ?_
  intro p e s m args below meth c s₁ B0 hml hv
  obtain ⟨rfl, hsz, hP, hK, hD0, hN⟩ := hv
  have hx := B0.exec
  have hb := B0.bytes
  have hr := B0.returns
  have hts := atoms_spec (ws := vfX12_codeOf) B0.pre
  have hown : s.vm.findClass RX12 = some m.cls := findClass_of_methodNamed B0.named
  have hlocks := B0.notSynchronized
  subst hsz
  have hD := hD0.self (sz := s.heap.size)
  generalize hAe : va_A ((a0, .inr (9, [g5, g6, g7, .ref a2, g8, g9, g10, g11, g12, g13, g14, g15, g16, g17, g18, g19, g20, g21, g22, g23, g24, g25, g26, g27, g28, g29, g30, g31, g32, g33])) :: bX11 a2 uq kq q_q []) s.heap.size = A at hD ⊢
  have hA : ∀ q : Nat, s.heap.size ≤ q → A q := fun q h => by rw [← hAe]; exact Or.inr h
  have hS : va_S A s.heap s.heap [] := va_S.rf
  have hP : va_P (dC, dI) vwCl ((a0, .inr (9, [g5, g6, g7, .ref a2, g8, g9, g10, g11, g12, g13, g14, g15, g16, g17, g18, g19, g20, g21, g22, g23, g24, g25, g26, g27, g28, g29, g30, g31, g32, g33])) :: bX11 a2 uq kq q_q []) s.heap := hP
  have hl := lv_entry ([.ref a0, .int k1]) (n := 2) (Nat.le_of_ble_eq_true rfl)
  rw [lg_entry_eq]
  generalize (lg_sl ([.ref a0, .int k1]) ++ List.replicate (2 - (lg_sl ([.ref a0, .int k1])).length) Slot.unset).toArray = ls at hl ⊢
  have hl : lv_has ls 2 [(0, .ref a0), (1, .int k1)] := hl
  refine W_q (fun QQ hQQ => ?_)
  rw [f_X12_codeOf] at h
  refine lv_bipush (v := 100) hx hb dX12_codeOf_0 (by decide) ?_
  refine lv_aload_n hx hb dX12_codeOf_2 rfl (lv_at hl 0 rfl) ?_
  refine lv_iload_n hx hb dX12_codeOf_3 rfl (lv_at hl 1 rfl) ?_
  obtain ⟨o4, eo4, h⟩ := bd_of h
  refine cl_i (wc := ((a0, .inr (9, [g5, g6, g7, .ref a2, g8, g9, g10, g11, g12, g13, g14, g15, g16, g17, g18, g19, g20, g21, g22, g23, g24, g25, g26, g27, g28, g29, g30, g31, g32, g33])) :: bX11 a2 uq kq q_q [])) (wr := []) (va_runV (As := [.int k1]) (rest := [.int 100]) ⟨hx, hb, hml, hown, hts⟩ (kfX12_spotOf l dC dI a0 k1 a2 uq kq (g5) (g6) (g7) (g8) (g9) (g10) (g11) (g12) (g13) (g14) (g15) (g16) (g17) (g18) (g19) (g20) (g21) (g22) (g23) (g24) (g25) (g26) (g27) (g28) (g29) (g30) (g31) (g32) (g33) q_q s.heap.size o4 eo4) (cwV 1 hts gfX12_codeOf_0 rfl rfl rfl (by decide +kernel) ⟨(Nat.le_of_ble_eq_true rfl), (Nat.le_of_ble_eq_true rfl)⟩) (PV (hP.sub (ws' := ((a0, .inr (9, [g5, g6, g7, .ref a2, g8, g9, g10, g11, g12, g13, g14, g15, g16, g17, g18, g19, g20, g21, g22, g23, g24, g25, g26, g27, g28, g29, g30, g31, g32, g33])) :: bX11 a2 uq kq q_q [])) [0, 1, 2, 3, 4, 5, 6, 7, 8, 9, 10, 11, 12, 13, 14, 15] rfl) (hK.sub (tys' := (tX11 kq ([]))) [0, 1, 2, 3, 4, 5, 6, 7, 8, 9, 10, 11, 12, 13] rfl) (hD.sub (ws' := ((a0, .inr (9, [g5, g6, g7, .ref a2, g8, g9, g10, g11, g12, g13, g14, g15, g16, g17, g18, g19, g20, g21, g22, g23, g24, g25, g26, g27, g28, g29, g30, g31, g32, g33])) :: bX11 a2 uq kq q_q [])) [0, 1, 2, 3, 4, 5, 6, 7, 8, 9, 10, 11, 12, 13, 14, 15] (by decide) rfl) hN 0 rfl rfl) rfl rfl hl.1 rfl (lv_room (Nat.le_of_ble_eq_true rfl)) dX12_codeOf_4 ⟨(Nat.le_of_ble_eq_true rfl), (Nat.le_of_ble_eq_true rfl)⟩) hP hD hK hS hA [0, 1, 2, 3, 4, 5, 6, 7, 8, 9, 10, 11, 12, 13, 14, 15] [] rfl rfl (by decide) (by decide) (fun r4 _ H locs hw hP hD _ hS => ?_)
  obtain rfl := hw.symm
  have hP : va_P (dC, dI) vwCl ((a0, .inr (9, [g5, g6, g7, .ref a2, g8, g9, g10, g11, g12, g13, g14, g15, g16, g17, g18, g19, g20, g21, g22, g23, g24, g25, g26, g27, g28, g29, g30, g31, g32, g33])) :: bX11 a2 uq kq q_q []) H := hP
  have hD : va_D A ((a0, .inr (9, [g5, g6, g7, .ref a2, g8, g9, g10, g11, g12, g13, g14, g15, g16, g17, g18, g19, g20, g21, g22, g23, g24, g25, g26, g27, g28, g29, g30, g31, g32, g33])) :: bX11 a2 uq kq q_q []) := hD
  refine lv_imul hx hb dX12_codeOf_7 ?_
  refine lv_bipush (v := 10) hx hb dX12_codeOf_8 (by decide) ?_
  refine lv_aload_n hx hb dX12_codeOf_10 rfl (lv_at hl 0 rfl) ?_
  refine lv_iload_n hx hb dX12_codeOf_11 rfl (lv_at hl 1 rfl) ?_
  obtain ⟨o12, eo12, h⟩ := bd_of h
  refine cl_i (wc := ((a0, .inr (9, [g5, g6, g7, .ref a2, g8, g9, g10, g11, g12, g13, g14, g15, g16, g17, g18, g19, g20, g21, g22, g23, g24, g25, g26, g27, g28, g29, g30, g31, g32, g33])) :: bX11 a2 uq kq q_q [])) (wr := []) (va_runV (As := [.int k1]) (rest := [.int 10, .int ((100 : Int32) * o4)]) ⟨hx, hb, hml, hown, hts⟩ (kfX12_fathomsOf l dC dI a0 k1 a2 uq kq (g5) (g6) (g7) (g8) (g9) (g10) (g11) (g12) (g13) (g14) (g15) (g16) (g17) (g18) (g19) (g20) (g21) (g22) (g23) (g24) (g25) (g26) (g27) (g28) (g29) (g30) (g31) (g32) (g33) q_q H.size o12 eo12) (cwV 1 hts gfX12_codeOf_1 rfl rfl rfl (by decide +kernel) ⟨(Nat.le_of_ble_eq_true rfl), (Nat.le_of_ble_eq_true rfl)⟩) (PV (hP.sub (ws' := ((a0, .inr (9, [g5, g6, g7, .ref a2, g8, g9, g10, g11, g12, g13, g14, g15, g16, g17, g18, g19, g20, g21, g22, g23, g24, g25, g26, g27, g28, g29, g30, g31, g32, g33])) :: bX11 a2 uq kq q_q [])) [0, 1, 2, 3, 4, 5, 6, 7, 8, 9, 10, 11, 12, 13, 14, 15] rfl) (hK.sub (tys' := (tX11 kq ([]))) [0, 1, 2, 3, 4, 5, 6, 7, 8, 9, 10, 11, 12, 13] rfl) (hD.sub (ws' := ((a0, .inr (9, [g5, g6, g7, .ref a2, g8, g9, g10, g11, g12, g13, g14, g15, g16, g17, g18, g19, g20, g21, g22, g23, g24, g25, g26, g27, g28, g29, g30, g31, g32, g33])) :: bX11 a2 uq kq q_q [])) [0, 1, 2, 3, 4, 5, 6, 7, 8, 9, 10, 11, 12, 13, 14, 15] (by decide) rfl) hN 0 rfl rfl) rfl rfl hl.1 rfl (lv_room (Nat.le_of_ble_eq_true rfl)) dX12_codeOf_12 ⟨(Nat.le_of_ble_eq_true rfl), (Nat.le_of_ble_eq_true rfl)⟩) hP hD hK hS hA [0, 1, 2, 3, 4, 5, 6, 7, 8, 9, 10, 11, 12, 13, 14, 15] [] rfl rfl (by decide) (by decide) (fun r12 _ H locs hw hP hD _ hS => ?_)
  obtain rfl := hw.symm
  have hP : va_P (dC, dI) vwCl ((a0, .inr (9, [g5, g6, g7, .ref a2, g8, g9, g10, g11, g12, g13, g14, g15, g16, g17, g18, g19, g20, g21, g22, g23, g24, g25, g26, g27, g28, g29, g30, g31, g32, g33])) :: bX11 a2 uq kq q_q []) H := hP
  have hD : va_D A ((a0, .inr (9, [g5, g6, g7, .ref a2, g8, g9, g10, g11, g12, g13, g14, g15, g16, g17, g18, g19, g20, g21, g22, g23, g24, g25, g26, g27, g28, g29, g30, g31, g32, g33])) :: bX11 a2 uq kq q_q []) := hD
  refine lv_imul hx hb dX12_codeOf_15 ?_
  refine lv_iadd hx hb dX12_codeOf_16 ?_
  refine lv_aload_n hx hb dX12_codeOf_17 rfl (lv_at hl 0 rfl) ?_
  refine lv_iload_n hx hb dX12_codeOf_18 rfl (lv_at hl 1 rfl) ?_
  obtain ⟨o19, eo19, h⟩ := bd_of h
  refine cl_i (wc := ((a0, .inr (9, [g5, g6, g7, .ref a2, g8, g9, g10, g11, g12, g13, g14, g15, g16, g17, g18, g19, g20, g21, g22, g23, g24, g25, g26, g27, g28, g29, g30, g31, g32, g33])) :: bX11 a2 uq kq q_q [])) (wr := []) (va_runV (As := [.int k1]) (rest := [.int (((100 : Int32) * o4) + ((10 : Int32) * o12))]) ⟨hx, hb, hml, hown, hts⟩ (kfX12_baitOf l dC dI a0 k1 a2 uq kq (g5) (g6) (g7) (g8) (g9) (g10) (g11) (g12) (g13) (g14) (g15) (g16) (g17) (g18) (g19) (g20) (g21) (g22) (g23) (g24) (g25) (g26) (g27) (g28) (g29) (g30) (g31) (g32) (g33) q_q H.size o19 eo19) (cwV 1 hts gfX12_codeOf_2 rfl rfl rfl (by decide +kernel) ⟨(Nat.le_of_ble_eq_true rfl), (Nat.le_of_ble_eq_true rfl)⟩) (PV (hP.sub (ws' := ((a0, .inr (9, [g5, g6, g7, .ref a2, g8, g9, g10, g11, g12, g13, g14, g15, g16, g17, g18, g19, g20, g21, g22, g23, g24, g25, g26, g27, g28, g29, g30, g31, g32, g33])) :: bX11 a2 uq kq q_q [])) [0, 1, 2, 3, 4, 5, 6, 7, 8, 9, 10, 11, 12, 13, 14, 15] rfl) (hK.sub (tys' := (tX11 kq ([]))) [0, 1, 2, 3, 4, 5, 6, 7, 8, 9, 10, 11, 12, 13] rfl) (hD.sub (ws' := ((a0, .inr (9, [g5, g6, g7, .ref a2, g8, g9, g10, g11, g12, g13, g14, g15, g16, g17, g18, g19, g20, g21, g22, g23, g24, g25, g26, g27, g28, g29, g30, g31, g32, g33])) :: bX11 a2 uq kq q_q [])) [0, 1, 2, 3, 4, 5, 6, 7, 8, 9, 10, 11, 12, 13, 14, 15] (by decide) rfl) hN 0 rfl rfl) rfl rfl hl.1 rfl (lv_room (Nat.le_of_ble_eq_true rfl)) dX12_codeOf_19 ⟨(Nat.le_of_ble_eq_true rfl), (Nat.le_of_ble_eq_true rfl)⟩) hP hD hK hS hA [0, 1, 2, 3, 4, 5, 6, 7, 8, 9, 10, 11, 12, 13, 14, 15] [] rfl rfl (by decide) (by decide) (fun r19 _ H locs hw hP hD _ hS => ?_)
  obtain rfl := hw.symm
  have hP : va_P (dC, dI) vwCl ((a0, .inr (9, [g5, g6, g7, .ref a2, g8, g9, g10, g11, g12, g13, g14, g15, g16, g17, g18, g19, g20, g21, g22, g23, g24, g25, g26, g27, g28, g29, g30, g31, g32, g33])) :: bX11 a2 uq kq q_q []) H := hP
  have hD : va_D A ((a0, .inr (9, [g5, g6, g7, .ref a2, g8, g9, g10, g11, g12, g13, g14, g15, g16, g17, g18, g19, g20, g21, g22, g23, g24, g25, g26, g27, g28, g29, g30, g31, g32, g33])) :: bX11 a2 uq kq q_q []) := hD
  refine lv_iadd hx hb dX12_codeOf_22 ?_
  obtain rfl := Option.some.inj h
  have hP9 := hP.sub (ws' := ((a0, .inr (9, [g5, g6, g7, .ref a2, g8, g9, g10, g11, g12, g13, g14, g15, g16, g17, g18, g19, g20, g21, g22, g23, g24, g25, g26, g27, g28, g29, g30, g31, g32, g33])) :: bX11 a2 uq kq q_q [])) [0, 1, 2, 3, 4, 5, 6, 7, 8, 9, 10, 11, 12, 13, 14, 15] rfl
  have hD9 := hD.sub (ws' := ((a0, .inr (9, [g5, g6, g7, .ref a2, g8, g9, g10, g11, g12, g13, g14, g15, g16, g17, g18, g19, g20, g21, g22, g23, g24, g25, g26, g27, g28, g29, g30, g31, g32, g33])) :: bX11 a2 uq kq q_q [])) [0, 1, 2, 3, 4, 5, 6, 7, 8, 9, 10, 11, 12, 13, 14, 15] (by decide) rfl
  have hK9 := hK.sub (tys' := []) [] rfl
  rw [hQQ]
  exact W.iret (v := ((((100 : Int32) * o4) + ((10 : Int32) * o12)) + o19)) hx hb hr (fun t ht hW => ⟨⟨((((100 : Int32) * o4) + ((10 : Int32) * o12)) + o19), (), rfl, rfl, by rw [ht]; exact hP9, va_K.moved hW.alike hK9, hD9⟩, hS.F ht⟩) hS.2.2 dX12_codeOf_23
theorem dX12_surest_0 : decode cX12_surest 0 = .ok (.aload_n 0, 1) := by decide +kernel
theorem dX12_surest_1 : decode cX12_surest 1 = .ok (.iconst 0, 1) := by decide +kernel
theorem dX12_surest_10 : decode cX12_surest 10 = .ok (.istore_n 2, 1) := by decide +kernel
theorem dX12_surest_11 : decode cX12_surest 11 = .ok (.iload_n 2, 1) := by decide +kernel
theorem dX12_surest_12 : decode cX12_surest 12 = .ok (.ifCond .le 9, 3) := by decide +kernel
theorem dX12_surest_15 : decode cX12_surest 15 = .ok (.aload_n 0, 1) := by decide +kernel
theorem dX12_surest_16 : decode cX12_surest 16 = .ok (.iload_n 2, 1) := by decide +kernel
theorem dX12_surest_17 : decode cX12_surest 17 = .ok (.invokevirtual 42, 3) := by decide +kernel
theorem dX12_surest_2 : decode cX12_surest 2 = .ok (.putfield 36, 3) := by decide +kernel
theorem dX12_surest_20 : decode cX12_surest 20 = .ok (.ireturn, 1) := by decide +kernel
theorem dX12_surest_21 : decode cX12_surest 21 = .ok (.aload_n 0, 1) := by decide +kernel
theorem dX12_surest_22 : decode cX12_surest 22 = .ok (.iload_n 1, 1) := by decide +kernel
theorem dX12_surest_23 : decode cX12_surest 23 = .ok (.invokevirtual 380, 3) := by decide +kernel
theorem dX12_surest_26 : decode cX12_surest 26 = .ok (.istore_n 3, 1) := by decide +kernel
theorem dX12_surest_27 : decode cX12_surest 27 = .ok (.aload_n 0, 1) := by decide +kernel
theorem dX12_surest_28 : decode cX12_surest 28 = .ok (.iload_n 3, 1) := by decide +kernel
theorem dX12_surest_29 : decode cX12_surest 29 = .ok (.bipush (-2), 2) := by decide +kernel
theorem dX12_surest_31 : decode cX12_surest 31 = .ok (.if_icmp .ne 8, 3) := by decide +kernel
theorem dX12_surest_34 : decode cX12_surest 34 = .ok (.bipush (-2), 2) := by decide +kernel
theorem dX12_surest_36 : decode cX12_surest 36 = .ok (.goto 8, 3) := by decide +kernel
theorem dX12_surest_39 : decode cX12_surest 39 = .ok (.aload_n 0, 1) := by decide +kernel
theorem dX12_surest_40 : decode cX12_surest 40 = .ok (.iload_n 3, 1) := by decide +kernel
theorem dX12_surest_41 : decode cX12_surest 41 = .ok (.invokevirtual 383, 3) := by decide +kernel
theorem dX12_surest_44 : decode cX12_surest 44 = .ok (.invokevirtual 46, 3) := by decide +kernel
theorem dX12_surest_47 : decode cX12_surest 47 = .ok (.ireturn, 1) := by decide +kernel
theorem dX12_surest_5 : decode cX12_surest 5 = .ok (.aload_n 0, 1) := by decide +kernel
theorem dX12_surest_6 : decode cX12_surest 6 = .ok (.iload_n 1, 1) := by decide +kernel
theorem dX12_surest_7 : decode cX12_surest 7 = .ok (.invokevirtual 377, 3) := by decide +kernel
def vfX12_surest : List Cond := List.cons (.code yX12_surest cX12_surest 4 (some .int)) (apW [.fieldLink RX12 36 "HookPierModel" "thrown" "I", .methodLink RX12 377 yX12_refusesSure, .instanceMethod yX12_refusesSure, .selects RX12 yX12_refusesSure yX12_refusesSure, .initialized RX12, .methodLink RX12 380 yX12_sureQuestion, .instanceMethod yX12_sureQuestion, .selects RX12 yX12_sureQuestion yX12_sureQuestion, .methodLink RX12 46 yX12_good, .instanceMethod yX12_good, .selects RX12 yX12_good yX12_good, .methodLink RX12 383 yX12_codeOf, .instanceMethod yX12_codeOf, .selects RX12 yX12_codeOf yX12_codeOf, .methodLink RX12 42 yX12_refused, .instanceMethod yX12_refused, .selects RX12 yX12_refused yX12_refused] (apW wsX120 (apW vfX12_refusesSure (apW vfX12_sureQuestion (apW vfX12_good (apW vfX12_codeOf (vfX12_refused)))))))
theorem ifX12_surest_X12 : ∀ w ∈ wsX120, w ∈ vfX12_surest := fun _ h => (List.mem_cons_of_mem _ (List.mem_append_right _ (List.mem_append_left _ h)))
theorem qfX12_surest : Good vfX12_surest := gd_cons (by decide +kernel) (gd_app (gd_dec (by decide +kernel) : Good [.fieldLink RX12 36 "HookPierModel" "thrown" "I", .methodLink RX12 377 yX12_refusesSure, .instanceMethod yX12_refusesSure, .selects RX12 yX12_refusesSure yX12_refusesSure, .initialized RX12, .methodLink RX12 380 yX12_sureQuestion, .instanceMethod yX12_sureQuestion, .selects RX12 yX12_sureQuestion yX12_sureQuestion, .methodLink RX12 46 yX12_good, .instanceMethod yX12_good, .selects RX12 yX12_good yX12_good, .methodLink RX12 383 yX12_codeOf, .instanceMethod yX12_codeOf, .selects RX12 yX12_codeOf yX12_codeOf, .methodLink RX12 42 yX12_refused, .instanceMethod yX12_refused, .selects RX12 yX12_refused yX12_refused]) (gd_app qsX12 (gd_app qfX12_refusesSure (gd_app qfX12_sureQuestion (gd_app qfX12_good (gd_app qfX12_codeOf qfX12_refused))))))
theorem gfX12_surest_0 : GoodIn vfX12_surest (wsV RX12 377 RX12 yX12_refusesSure vfX12_refusesSure) := goodIn_app (goodIn_r [.methodLink RX12 377 yX12_refusesSure, .instanceMethod yX12_refusesSure, .selects RX12 yX12_refusesSure yX12_refusesSure, .initialized RX12] [2, 3, 4, 5] rfl (by decide +kernel)) (goodIn_m (fun _ h => (List.mem_cons_of_mem _ (List.mem_append_right _ (List.mem_append_right _ (List.mem_append_left _ h))))) qfX12_refusesSure)
theorem gfX12_surest_1 : GoodIn vfX12_surest (wsV RX12 380 RX12 yX12_sureQuestion vfX12_sureQuestion) := goodIn_app (goodIn_r [.methodLink RX12 380 yX12_sureQuestion, .instanceMethod yX12_sureQuestion, .selects RX12 yX12_sureQuestion yX12_sureQuestion, .initialized RX12] [6, 7, 8, 5] rfl (by decide +kernel)) (goodIn_m (fun _ h => (List.mem_cons_of_mem _ (List.mem_append_right _ (List.mem_append_right _ (List.mem_append_right _ (List.mem_append_left _ h)))))) qfX12_sureQuestion)
theorem gfX12_surest_2 : GoodIn vfX12_surest (wsV RX12 46 RX12 yX12_good vfX12_good) := goodIn_app (goodIn_r [.methodLink RX12 46 yX12_good, .instanceMethod yX12_good, .selects RX12 yX12_good yX12_good, .initialized RX12] [9, 10, 11, 5] rfl (by decide +kernel)) (goodIn_m (fun _ h => (List.mem_cons_of_mem _ (List.mem_append_right _ (List.mem_append_right _ (List.mem_append_right _ (List.mem_append_right _ (List.mem_append_left _ h))))))) qfX12_good)
theorem gfX12_surest_3 : GoodIn vfX12_surest (wsV RX12 383 RX12 yX12_codeOf vfX12_codeOf) := goodIn_app (goodIn_r [.methodLink RX12 383 yX12_codeOf, .instanceMethod yX12_codeOf, .selects RX12 yX12_codeOf yX12_codeOf, .initialized RX12] [12, 13, 14, 5] rfl (by decide +kernel)) (goodIn_m (fun _ h => (List.mem_cons_of_mem _ (List.mem_append_right _ (List.mem_append_right _ (List.mem_append_right _ (List.mem_append_right _ (List.mem_append_right _ (List.mem_append_left _ h)))))))) qfX12_codeOf)
theorem gfX12_surest_4 : GoodIn vfX12_surest (wsV RX12 42 RX12 yX12_refused vfX12_refused) := goodIn_app (goodIn_r [.methodLink RX12 42 yX12_refused, .instanceMethod yX12_refused, .selects RX12 yX12_refused yX12_refused, .initialized RX12] [15, 16, 17, 5] rfl (by decide +kernel)) (goodIn_m (fun _ h => (List.mem_cons_of_mem _ (List.mem_append_right _ (List.mem_append_right _ (List.mem_append_right _ (List.mem_append_right _ (List.mem_append_right _ (List.mem_append_right _ h)))))))) qfX12_refused)
set_option maxHeartbeats 2000000 in
set_option maxRecDepth 100000 in
theorem kfX12_surest (l : Launch) (dC : Nat → ClassId) (dI : Nat → Nat → Nat) (a0 : Nat) (k1 : Int32) (a2 : Nat) (a3 : Nat) (uq : Nat → Nat) (kq : Nat → ClassId) (m_t : TX12_t) (m_v : TX12_v) (g8 : Value) (g9 : Value) (g10 : Value) (g11 : Value) (g12 : Value) (g13 : Value) (g14 : Value) (g15 : Value) (g16 : Value) (g17 : Value) (g18 : Value) (g19 : Value) (g20 : Value) (g21 : Value) (g22 : Value) (g23 : Value) (g24 : Value) (g25 : Value) (g26 : Value) (g27 : Value) (g28 : Value) (g29 : Value) (g30 : Value) (g31 : Value) (g32 : Value) (q_q : TX11_q) (cB34 : ClassId) (sz : Nat) (out : (Int32 × TX12_t)) (h : f_X12_surest k1 m_t m_v q_q = some out) : Met l yX12_surest vfX12_surest ({ frames := 6, cells := 0, slots := 0, locals := 143 }) (PC (dC, dI) [.ref a0, .int k1] sz ((a0, .inr (9, [.int m_t.1, .int m_t.2.1, .int m_t.2.2, .ref a2, g8, g9, g10, g11, g12, g13, g14, g15, g16, g17, g18, .ref a3, g19, g20, g21, g22, g23, g24, g25, g26, g27, g28, g29, g30, g31, g32])) :: bX11 a2 uq kq q_q ([(a3, .inl (cB34, 26, .inl m_v))])) (tX11 kq ((cB34, .int) :: []))) (va_Qi (S := Unit) (fun (r : Int32) _ => r = out.1) (fun _ t => BC (dC, dI) (va_A ((a0, .inr (9, [.int m_t.1, .int m_t.2.1, .int m_t.2.2, .ref a2, g8, g9, g10, g11, g12, g13, g14, g15, g16, g17, g18, .ref a3, g19, g20, g21, g22, g23, g24, g25, g26, g27, g28, g29, g30, g31, g32])) :: bX11 a2 uq kq q_q ([(a3, .inl (cB34, 26, .inl m_v))])) sz) ((a0, .inr (9, [.int out.2.1, .int out.2.2.1, .int out.2.2.2, .ref a2, g8, g9, g10, g11, g12, g13, g14, g15, g16, g17, g18, .ref a3, g19, g20, g21, g22, g23, g24, g25, g26, g27, g28, g29, g30, g31, g32])) :: bX11 a2 uq kq q_q ([(a3, .inl (cB34, 26, .inl m_v))])) [] t) (va_A ((a0, .inr (9, [.int m_t.1, .int m_t.2.1, .int m_t.2.2, .ref a2, g8, g9, g10, g11, g12, g13, g14, g15, g16, g17, g18, .ref a3, g19, g20, g21, g22, g23, g24, g25, g26, g27, g28, g29, g30, g31, g32])) :: bX11 a2 uq kq q_q ([(a3, .inl (cB34, 26, .inl m_v))])) sz)) 0 0 (va_A ((a0, .inr (9, [.int m_t.1, .int m_t.2.1, .int m_t.2.2, .ref a2, g8, g9, g10, g11, g12, g13, g14, g15, g16, g17, g18, .ref a3, g19, g20, g21, g22, g23, g24, g25, g26, g27, g28, g29, g30, g31, g32])) :: bX11 a2 uq kq q_q ([(a3, .inl (cB34, 26, .inl m_v))])) sz) := by
  refine Met.ofW (cc := cX12_surest) (maxL := 4) (ret := (some .int)) (by decide) rfl ?_
  intro p e s m args below meth c s₁ B0 hml hv
  obtain ⟨rfl, hsz, hP, hK, hD0, hN⟩ := hv
  have hx := B0.exec
  have hb := B0.bytes
  have hr := B0.returns
  have hts := atoms_spec (ws := vfX12_surest) B0.pre
  have hown : s.vm.findClass RX12 = some m.cls := findClass_of_methodNamed B0.named
  have hlocks := B0.notSynchronized
  subst hsz
  have hD := hD0.self (sz := s.heap.size)
  generalize hAe : va_A ((a0, .inr (9, [.int m_t.1, .int m_t.2.1, .int m_t.2.2, .ref a2, g8, g9, g10, g11, g12, g13, g14, g15, g16, g17, g18, .ref a3, g19, g20, g21, g22, g23, g24, g25, g26, g27, g28, g29, g30, g31, g32])) :: bX11 a2 uq kq q_q ([(a3, .inl (cB34, 26, .inl m_v))])) s.heap.size = A at hD ⊢
  have hA : ∀ q : Nat, s.heap.size ≤ q → A q := fun q h => by rw [← hAe]; exact Or.inr h
  have hS : va_S A s.heap s.heap [] := va_S.rf
  have hP : va_P (dC, dI) vwCl ((a0, .inr (9, [.int m_t.1, .int m_t.2.1, .int m_t.2.2, .ref a2, g8, g9, g10, g11, g12, g13, g14, g15, g16, g17, g18, .ref a3, g19, g20, g21, g22, g23, g24, g25, g26, g27, g28, g29, g30, g31, g32])) :: bX11 a2 uq kq q_q ([(a3, .inl (cB34, 26, .inl m_v))])) s.heap := hP
  have hl := lv_entry ([.ref a0, .int k1]) (n := 4) (Nat.le_of_ble_eq_true rfl)
  rw [lg_entry_eq]
  generalize (lg_sl ([.ref a0, .int k1]) ++ List.replicate (4 - (lg_sl ([.ref a0, .int k1])).length) Slot.unset).toArray = ls at hl ⊢
  have hl : lv_has ls 4 [(0, .ref a0), (1, .int k1)] := hl
  refine W_q (fun QQ hQQ => ?_)
  rw [f_X12_surest] at h
  refine lv_aload_n hx hb dX12_surest_0 rfl (lv_at hl 0 rfl) ?_
  refine lv_iconst (v := 0) hx hb dX12_surest_1 (by decide) ?_
  refine va_put (D := (dC, dI)) (ci := 9) (v := .int 0) (ty := .int) (C := RX12) (T := TX12) (N := 30) hx hb hts ifX12_surest_X12 tyX12 tyX12_ok nmX12 hown hK hP hD hS 0 rfl rfl 0 (by decide) (hts (.fieldLink RX12 36 "HookPierModel" "thrown" "I") (List.mem_of_getElem? (i := 1) rfl)) (fun _ h9 => h9) rfl (by decide +kernel) rfl rfl (Nat.le_of_ble_eq_true rfl) dX12_surest_2 (fun H locs hP hD hS => ?_)
  have hP : va_P (dC, dI) vwCl ((a0, .inr (9, [.int 0, .int m_t.2.1, .int m_t.2.2, .ref a2, g8, g9, g10, g11, g12, g13, g14, g15, g16, g17, g18, .ref a3, g19, g20, g21, g22, g23, g24, g25, g26, g27, g28, g29, g30, g31, g32])) :: bX11 a2 uq kq q_q ([(a3, .inl (cB34, 26, .inl m_v))])) H := hP
  have hD : va_D A ((a0, .inr (9, [.int 0, .int m_t.2.1, .int m_t.2.2, .ref a2, g8, g9, g10, g11, g12, g13, g14, g15, g16, g17, g18, .ref a3, g19, g20, g21, g22, g23, g24, g25, g26, g27, g28, g29, g30, g31, g32])) :: bX11 a2 uq kq q_q ([(a3, .inl (cB34, 26, .inl m_v))])) := hD
  refine lv_aload_n hx hb dX12_surest_5 rfl (lv_at hl 0 rfl) ?_
  refine lv_iload_n hx hb dX12_surest_6 rfl (lv_at hl 1 rfl) ?_
  obtain ⟨o7, eo7, h⟩ := bd_of h
  refine cl_i (wc := ((a0, .inr (9, [.int 0, .int m_t.2.1, .int m_t.2.2, .ref a2, g8, g9, g10, g11, g12, g13, g14, g15, g16, g17, g18, .ref a3, g19, g20, g21, g22, g23, g24, g25, g26, g27, g28, g29, g30, g31, g32])) :: bX11 a2 uq kq q_q ([(a3, .inl (cB34, 26, .inl m_v))]))) (wr := []) (va_runV (As := [.int k1]) (rest := []) ⟨hx, hb, hml, hown, hts⟩ (kfX12_refusesSure l dC dI a0 k1 a2 a3 uq kq m_v (.int 0) (.int m_t.2.1) (.int m_t.2.2) (g8) (g9) (g10) (g11) (g12) (g13) (g14) (g15) (g16) (g17) (g18) (g19) (g20) (g21) (g22) (g23) (g24) (g25) (g26) (g27) (g28) (g29) (g30) (g31) (g32) q_q cB34 H.size o7 eo7) (cwV 1 hts gfX12_surest_0 rfl rfl rfl (by decide +kernel) ⟨(Nat.le_of_ble_eq_true rfl), (Nat.le_of_ble_eq_true rfl)⟩) (PV (hP.sub (ws' := ((a0, .inr (9, [.int 0, .int m_t.2.1, .int m_t.2.2, .ref a2, g8, g9, g10, g11, g12, g13, g14, g15, g16, g17, g18, .ref a3, g19, g20, g21, g22, g23, g24, g25, g26, g27, g28, g29, g30, g31, g32])) :: bX11 a2 uq kq q_q ([(a3, .inl (cB34, 26, .inl m_v))]))) [0, 1, 2, 3, 4, 5, 6, 7, 8, 9, 10, 11, 12, 13, 14, 15, 16] rfl) (hK.sub (tys' := (tX11 kq ((cB34, .int) :: []))) [0, 1, 2, 3, 4, 5, 6, 7, 8, 9, 10, 11, 12, 13, 14] rfl) (hD.sub (ws' := ((a0, .inr (9, [.int 0, .int m_t.2.1, .int m_t.2.2, .ref a2, g8, g9, g10, g11, g12, g13, g14, g15, g16, g17, g18, .ref a3, g19, g20, g21, g22, g23, g24, g25, g26, g27, g28, g29, g30, g31, g32])) :: bX11 a2 uq kq q_q ([(a3, .inl (cB34, 26, .inl m_v))]))) [0, 1, 2, 3, 4, 5, 6, 7, 8, 9, 10, 11, 12, 13, 14, 15, 16] (by decide) rfl) hN 0 rfl rfl) rfl rfl hl.1 rfl (lv_room (Nat.le_of_ble_eq_true rfl)) dX12_surest_7 ⟨(Nat.le_of_ble_eq_true rfl), (Nat.le_of_ble_eq_true rfl)⟩) hP hD hK hS hA [0, 1, 2, 3, 4, 5, 6, 7, 8, 9, 10, 11, 12, 13, 14, 15, 16] [] rfl rfl (by decide) (by decide) (fun r7 _ H locs hw hP hD _ hS => ?_)
  obtain rfl := hw.symm
  have hP : va_P (dC, dI) vwCl ((a0, .inr (9, [.int 0, .int m_t.2.1, .int m_t.2.2, .ref a2, g8, g9, g10, g11, g12, g13, g14, g15, g16, g17, g18, .ref a3, g19, g20, g21, g22, g23, g24, g25, g26, g27, g28, g29, g30, g31, g32])) :: bX11 a2 uq kq q_q ([(a3, .inl (cB34, 26, .inl m_v))])) H := hP
  have hD : va_D A ((a0, .inr (9, [.int 0, .int m_t.2.1, .int m_t.2.2, .ref a2, g8, g9, g10, g11, g12, g13, g14, g15, g16, g17, g18, .ref a3, g19, g20, g21, g22, g23, g24, g25, g26, g27, g28, g29, g30, g31, g32])) :: bX11 a2 uq kq q_q ([(a3, .inl (cB34, 26, .inl m_v))])) := hD
  refine lv_istore_n (lv' := [(2, .int o7), (0, .ref a0), (1, .int k1)]) hx hb dX12_surest_10 rfl hl (by decide) rfl (fun ls hl => ?_)
  refine lv_iload_n hx hb dX12_surest_11 rfl (lv_at hl 0 rfl) ?_
  refine lv_if_le (tgt := 21) hx hb dX12_surest_12 (by decide) (fun c12 => ?_) (fun c12 => ?_)
  · have h := (if_pos c12).symm.trans h
    refine lv_aload_n hx hb dX12_surest_21 rfl (lv_at hl 1 rfl) ?_
    refine lv_iload_n hx hb dX12_surest_22 rfl (lv_at hl 2 rfl) ?_
    obtain ⟨o23, eo23, h⟩ := bd_of h
    refine cl_i (wc := ((a0, .inr (9, [.int 0, .int m_t.2.1, .int m_t.2.2, .ref a2, g8, g9, g10, g11, g12, g13, g14, g15, g16, g17, g18, .ref a3, g19, g20, g21, g22, g23, g24, g25, g26, g27, g28, g29, g30, g31, g32])) :: bX11 a2 uq kq q_q ([(a3, .inl (cB34, 26, .inl m_v))]))) (wr := []) (va_runV (As := [.int k1]) (rest := []) ⟨hx, hb, hml, hown, hts⟩ (kfX12_sureQuestion l dC dI a0 k1 a2 a3 uq kq m_v (.int 0) (.int m_t.2.1) (.int m_t.2.2) (g8) (g9) (g10) (g11) (g12) (g13) (g14) (g15) (g16) (g17) (g18) (g19) (g20) (g21) (g22) (g23) (g24) (g25) (g26) (g27) (g28) (g29) (g30) (g31) (g32) q_q cB34 H.size o23 eo23) (cwV 1 hts gfX12_surest_1 rfl rfl rfl (by decide +kernel) ⟨(Nat.le_of_ble_eq_true rfl), (Nat.le_of_ble_eq_true rfl)⟩) (PV (hP.sub (ws' := ((a0, .inr (9, [.int 0, .int m_t.2.1, .int m_t.2.2, .ref a2, g8, g9, g10, g11, g12, g13, g14, g15, g16, g17, g18, .ref a3, g19, g20, g21, g22, g23, g24, g25, g26, g27, g28, g29, g30, g31, g32])) :: bX11 a2 uq kq q_q ([(a3, .inl (cB34, 26, .inl m_v))]))) [0, 1, 2, 3, 4, 5, 6, 7, 8, 9, 10, 11, 12, 13, 14, 15, 16] rfl) (hK.sub (tys' := (tX11 kq ((cB34, .int) :: []))) [0, 1, 2, 3, 4, 5, 6, 7, 8, 9, 10, 11, 12, 13, 14] rfl) (hD.sub (ws' := ((a0, .inr (9, [.int 0, .int m_t.2.1, .int m_t.2.2, .ref a2, g8, g9, g10, g11, g12, g13, g14, g15, g16, g17, g18, .ref a3, g19, g20, g21, g22, g23, g24, g25, g26, g27, g28, g29, g30, g31, g32])) :: bX11 a2 uq kq q_q ([(a3, .inl (cB34, 26, .inl m_v))]))) [0, 1, 2, 3, 4, 5, 6, 7, 8, 9, 10, 11, 12, 13, 14, 15, 16] (by decide) rfl) hN 0 rfl rfl) rfl rfl hl.1 rfl (lv_room (Nat.le_of_ble_eq_true rfl)) dX12_surest_23 ⟨(Nat.le_of_ble_eq_true rfl), (Nat.le_of_ble_eq_true rfl)⟩) hP hD hK hS hA [0, 1, 2, 3, 4, 5, 6, 7, 8, 9, 10, 11, 12, 13, 14, 15, 16] [] rfl rfl (by decide) (by decide) (fun r23 _ H locs hw hP hD _ hS => ?_)
    obtain rfl := hw.symm
    have hP : va_P (dC, dI) vwCl ((a0, .inr (9, [.int 0, .int m_t.2.1, .int m_t.2.2, .ref a2, g8, g9, g10, g11, g12, g13, g14, g15, g16, g17, g18, .ref a3, g19, g20, g21, g22, g23, g24, g25, g26, g27, g28, g29, g30, g31, g32])) :: bX11 a2 uq kq q_q ([(a3, .inl (cB34, 26, .inl m_v))])) H := hP
    have hD : va_D A ((a0, .inr (9, [.int 0, .int m_t.2.1, .int m_t.2.2, .ref a2, g8, g9, g10, g11, g12, g13, g14, g15, g16, g17, g18, .ref a3, g19, g20, g21, g22, g23, g24, g25, g26, g27, g28, g29, g30, g31, g32])) :: bX11 a2 uq kq q_q ([(a3, .inl (cB34, 26, .inl m_v))])) := hD
    refine lv_istore_n (lv' := [(3, .int o23), (2, .int o7), (0, .ref a0), (1, .int k1)]) hx hb dX12_surest_26 rfl hl (by decide) rfl (fun ls hl => ?_)
    refine lv_aload_n hx hb dX12_surest_27 rfl (lv_at hl 2 rfl) ?_
    refine lv_iload_n hx hb dX12_surest_28 rfl (lv_at hl 0 rfl) ?_
    refine lv_bipush (v := (-2)) hx hb dX12_surest_29 (by decide) ?_
    have J44 : ∀ (v44_t1 : Int32) (H : Heap) (locs : List Loc) (ls : Array Slot), f_X12_surest_J44 m_t v44_t1 = some out → va_P (dC, dI) vwCl ((a3, .inl (cB34, 26, .inl m_v)) :: (a0, .inr (9, [.int 0, .int m_t.2.1, .int m_t.2.2, .ref a2, g8, g9, g10, g11, g12, g13, g14, g15, g16, g17, g18, .ref a3, g19, g20, g21, g22, g23, g24, g25, g26, g27, g28, g29, g30, g31, g32])) :: bX11 a2 uq kq q_q []) H → va_D A ((a3, .inl (cB34, 26, .inl m_v)) :: (a0, .inr (9, [.int 0, .int m_t.2.1, .int m_t.2.2, .ref a2, g8, g9, g10, g11, g12, g13, g14, g15, g16, g17, g18, .ref a3, g19, g20, g21, g22, g23, g24, g25, g26, g27, g28, g29, g30, g31, g32])) :: bX11 a2 uq kq q_q []) → va_S A s.heap H locs → lv_has ls 4 [] → W p l e (headSpec vfX12_surest { frames := 6, cells := 0, slots := 0, locals := 143 }).room s m ([.ref a0, .int k1]).toArray below meth c H locs 0 0 QQ (F0 m 44 ls [.int v44_t1, .ref a0]) := by
      intro v44_t1 H locs ls h  hP hD hS hl
      rw [f_X12_surest_J44] at h
      obtain ⟨o44, eo44⟩ : ∃ o, o = f_X12_good v44_t1 ((0 : Int32), m_t.2) := ⟨_, rfl⟩
      have h := nm_of h o44 eo44
      refine cl_i (wc := ([(a0, .inr (9, [.int 0, .int m_t.2.1, .int m_t.2.2, .ref a2, g8, g9, g10, g11, g12, g13, g14, g15, g16, g17, g18, .ref a3, g19, g20, g21, g22, g23, g24, g25, g26, g27, g28, g29, g30, g31, g32]))])) (wr := ((a3, .inl (cB34, 26, .inl m_v)) :: bX11 a2 uq kq q_q [])) (va_runV (As := [.int v44_t1]) (rest := []) ⟨hx, hb, hml, hown, hts⟩ (kfX12_good l dC dI a0 v44_t1 ((0 : Int32), m_t.2) (.ref a2) (g8) (g9) (g10) (g11) (g12) (g13) (g14) (g15) (g16) (g17) (g18) (.ref a3) (g19) (g20) (g21) (g22) (g23) (g24) (g25) (g26) (g27) (g28) (g29) (g30) (g31) (g32) H.size o44 eo44.symm) (cwV 1 hts gfX12_surest_2 rfl rfl rfl (by decide +kernel) ⟨(Nat.le_of_ble_eq_true rfl), (Nat.le_of_ble_eq_true rfl)⟩) (PV (hP.sub (ws' := ([(a0, .inr (9, [.int 0, .int m_t.2.1, .int m_t.2.2, .ref a2, g8, g9, g10, g11, g12, g13, g14, g15, g16, g17, g18, .ref a3, g19, g20, g21, g22, g23, g24, g25, g26, g27, g28, g29, g30, g31, g32]))])) [1] rfl) (hK.sub (tys' := ([])) [] rfl) (hD.sub (ws' := ([(a0, .inr (9, [.int 0, .int m_t.2.1, .int m_t.2.2, .ref a2, g8, g9, g10, g11, g12, g13, g14, g15, g16, g17, g18, .ref a3, g19, g20, g21, g22, g23, g24, g25, g26, g27, g28, g29, g30, g31, g32]))])) [1] (by decide) rfl) hN 0 rfl rfl) rfl rfl hl.1 rfl (lv_room (Nat.le_of_ble_eq_true rfl)) dX12_surest_44 ⟨(Nat.le_of_ble_eq_true rfl), (Nat.le_of_ble_eq_true rfl)⟩) hP hD hK hS hA [1] [0, 2, 3, 4, 5, 6, 7, 8, 9, 10, 11, 12, 13, 14, 15, 16] rfl rfl (by decide) (by decide) (fun r44 _ H locs hw hP hD _ hS => ?_)
      obtain rfl := hw
      have hP : va_P (dC, dI) vwCl ((a3, .inl (cB34, 26, .inl m_v)) :: bX11 a2 uq kq q_q ([(a0, .inr (9, [.int o44.2.1, .int o44.2.2.1, .int o44.2.2.2, .ref a2, g8, g9, g10, g11, g12, g13, g14, g15, g16, g17, g18, .ref a3, g19, g20, g21, g22, g23, g24, g25, g26, g27, g28, g29, g30, g31, g32]))])) H := hP
      have hD : va_D A ((a3, .inl (cB34, 26, .inl m_v)) :: bX11 a2 uq kq q_q ([(a0, .inr (9, [.int o44.2.1, .int o44.2.2.1, .int o44.2.2.2, .ref a2, g8, g9, g10, g11, g12, g13, g14, g15, g16, g17, g18, .ref a3, g19, g20, g21, g22, g23, g24, g25, g26, g27, g28, g29, g30, g31, g32]))])) := hD
      obtain rfl := Option.some.inj h
      have hP9 := hP.sub (ws' := ((a0, .inr (9, [.int o44.2.1, .int o44.2.2.1, .int o44.2.2.2, .ref a2, g8, g9, g10, g11, g12, g13, g14, g15, g16, g17, g18, .ref a3, g19, g20, g21, g22, g23, g24, g25, g26, g27, g28, g29, g30, g31, g32])) :: bX11 a2 uq kq q_q ([(a3, .inl (cB34, 26, .inl m_v))]))) [16, 1, 2, 3, 4, 5, 6, 7, 8, 9, 10, 11, 12, 13, 14, 15, 0] rfl
      have hD9 := hD.sub (ws' := ((a0, .inr (9, [.int o44.2.1, .int o44.2.2.1, .int o44.2.2.2, .ref a2, g8, g9, g10, g11, g12, g13, g14, g15, g16, g17, g18, .ref a3, g19, g20, g21, g22, g23, g24, g25, g26, g27, g28, g29, g30, g31, g32])) :: bX11 a2 uq kq q_q ([(a3, .inl (cB34, 26, .inl m_v))]))) [16, 1, 2, 3, 4, 5, 6, 7, 8, 9, 10, 11, 12, 13, 14, 15, 0] (by decide) rfl
      have hK9 := hK.sub (tys' := []) [] rfl
      rw [hQQ]
      exact W.iret (v := o44.1) hx hb hr (fun t ht hW => ⟨⟨o44.1, (), rfl, rfl, by rw [ht]; exact hP9, va_K.moved hW.alike hK9, hD9⟩, hS.F ht⟩) hS.2.2 dX12_surest_47
    refine lv_icmp_ne (tgt := 39) hx hb dX12_surest_31 (by decide) (fun c31 => ?_) (fun c31 => ?_)
    · have h := (if_neg c31).symm.trans h
      refine lv_aload_n hx hb dX12_surest_39 rfl (lv_at hl 2 rfl) ?_
      refine lv_iload_n hx hb dX12_surest_40 rfl (lv_at hl 0 rfl) ?_
      obtain ⟨o41, eo41, h⟩ := bd_of h
      refine cl_i (wc := ((a0, .inr (9, [.int 0, .int m_t.2.1, .int m_t.2.2, .ref a2, g8, g9, g10, g11, g12, g13, g14, g15, g16, g17, g18, .ref a3, g19, g20, g21, g22, g23, g24, g25, g26, g27, g28, g29, g30, g31, g32])) :: bX11 a2 uq kq q_q [])) (wr := ([(a3, .inl (cB34, 26, .inl m_v))])) (va_runV (As := [.int o23]) (rest := [.ref a0]) ⟨hx, hb, hml, hown, hts⟩ (kfX12_codeOf l dC dI a0 o23 a2 uq kq (.int 0) (.int m_t.2.1) (.int m_t.2.2) (g8) (g9) (g10) (g11) (g12) (g13) (g14) (g15) (g16) (g17) (g18) (.ref a3) (g19) (g20) (g21) (g22) (g23) (g24) (g25) (g26) (g27) (g28) (g29) (g30) (g31) (g32) q_q H.size o41 eo41) (cwV 1 hts gfX12_surest_3 rfl rfl rfl (by decide +kernel) ⟨(Nat.le_of_ble_eq_true rfl), (Nat.le_of_ble_eq_true rfl)⟩) (PV (hP.sub (ws' := ((a0, .inr (9, [.int 0, .int m_t.2.1, .int m_t.2.2, .ref a2, g8, g9, g10, g11, g12, g13, g14, g15, g16, g17, g18, .ref a3, g19, g20, g21, g22, g23, g24, g25, g26, g27, g28, g29, g30, g31, g32])) :: bX11 a2 uq kq q_q [])) [0, 1, 2, 3, 4, 5, 6, 7, 8, 9, 10, 11, 12, 13, 14, 15] rfl) (hK.sub (tys' := (tX11 kq ([]))) [0, 1, 2, 3, 4, 5, 6, 7, 8, 9, 10, 11, 12, 13] rfl) (hD.sub (ws' := ((a0, .inr (9, [.int 0, .int m_t.2.1, .int m_t.2.2, .ref a2, g8, g9, g10, g11, g12, g13, g14, g15, g16, g17, g18, .ref a3, g19, g20, g21, g22, g23, g24, g25, g26, g27, g28, g29, g30, g31, g32])) :: bX11 a2 uq kq q_q [])) [0, 1, 2, 3, 4, 5, 6, 7, 8, 9, 10, 11, 12, 13, 14, 15] (by decide) rfl) hN 0 rfl rfl) rfl rfl hl.1 rfl (lv_room (Nat.le_of_ble_eq_true rfl)) dX12_surest_41 ⟨(Nat.le_of_ble_eq_true rfl), (Nat.le_of_ble_eq_true rfl)⟩) hP hD hK hS hA [0, 1, 2, 3, 4, 5, 6, 7, 8, 9, 10, 11, 12, 13, 14, 15] [16] rfl rfl (by decide) (by decide) (fun r41 _ H locs hw hP hD _ hS => ?_)
      obtain rfl := hw.symm
      have hP : va_P (dC, dI) vwCl ((a3, .inl (cB34, 26, .inl m_v)) :: (a0, .inr (9, [.int 0, .int m_t.2.1, .int m_t.2.2, .ref a2, g8, g9, g10, g11, g12, g13, g14, g15, g16, g17, g18, .ref a3, g19, g20, g21, g22, g23, g24, g25, g26, g27, g28, g29, g30, g31, g32])) :: bX11 a2 uq kq q_q []) H := hP
      have hD : va_D A ((a3, .inl (cB34, 26, .inl m_v)) :: (a0, .inr (9, [.int 0, .int m_t.2.1, .int m_t.2.2, .ref a2, g8, g9, g10, g11, g12, g13, g14, g15, g16, g17, g18, .ref a3, g19, g20, g21, g22, g23, g24, g25, g26, g27, g28, g29, g30, g31, g32])) :: bX11 a2 uq kq q_q []) := hD
      exact J44 o41 H _ ls h  hP hD hS (lv_sub hl [] rfl)
    · have h := (if_pos c31).symm.trans h
      refine lv_bipush (v := (-2)) hx hb dX12_surest_34 (by decide) ?_
      refine lv_goto (tgt := 44) hx hb dX12_surest_36 (by decide) ?_
      exact J44 (-2 : Int32) H _ ls h  (hP.sub (ws' := ((a3, .inl (cB34, 26, .inl m_v)) :: (a0, .inr (9, [.int 0, .int m_t.2.1, .int m_t.2.2, .ref a2, g8, g9, g10, g11, g12, g13, g14, g15, g16, g17, g18, .ref a3, g19, g20, g21, g22, g23, g24, g25, g26, g27, g28, g29, g30, g31, g32])) :: bX11 a2 uq kq q_q [])) [16, 0, 1, 2, 3, 4, 5, 6, 7, 8, 9, 10, 11, 12, 13, 14, 15] rfl) (hD.sub (ws' := ((a3, .inl (cB34, 26, .inl m_v)) :: (a0, .inr (9, [.int 0, .int m_t.2.1, .int m_t.2.2, .ref a2, g8, g9, g10, g11, g12, g13, g14, g15, g16, g17, g18, .ref a3, g19, g20, g21, g22, g23, g24, g25, g26, g27, g28, g29, g30, g31, g32])) :: bX11 a2 uq kq q_q [])) [16, 0, 1, 2, 3, 4, 5, 6, 7, 8, 9, 10, 11, 12, 13, 14, 15] (by decide) rfl) hS (lv_sub hl [] rfl)
  · have h := (if_neg c12).symm.trans h
    refine lv_aload_n hx hb dX12_surest_15 rfl (lv_at hl 1 rfl) ?_
    refine lv_iload_n hx hb dX12_surest_16 rfl (lv_at hl 0 rfl) ?_
    obtain ⟨o17, eo17⟩ : ∃ o, o = f_X12_refused o7 ((0 : Int32), m_t.2) := ⟨_, rfl⟩
    have h := nm_of h o17 eo17
    refine cl_i (wc := ([(a0, .inr (9, [.int 0, .int m_t.2.1, .int m_t.2.2, .ref a2, g8, g9, g10, g11, g12, g13, g14, g15, g16, g17, g18, .ref a3, g19, g20, g21, g22, g23, g24, g25, g26, g27, g28, g29, g30, g31, g32]))])) (wr := (bX11 a2 uq kq q_q ([(a3, .inl (cB34, 26, .inl m_v))]))) (va_runV (As := [.int o7]) (rest := []) ⟨hx, hb, hml, hown, hts⟩ (kfX12_refused l dC dI a0 o7 ((0 : Int32), m_t.2) (.ref a2) (g8) (g9) (g10) (g11) (g12) (g13) (g14) (g15) (g16) (g17) (g18) (.ref a3) (g19) (g20) (g21) (g22) (g23) (g24) (g25) (g26) (g27) (g28) (g29) (g30) (g31) (g32) H.size o17 eo17.symm) (cwV 1 hts gfX12_surest_4 rfl rfl rfl (by decide +kernel) ⟨(Nat.le_of_ble_eq_true rfl), (Nat.le_of_ble_eq_true rfl)⟩) (PV (hP.sub (ws' := ([(a0, .inr (9, [.int 0, .int m_t.2.1, .int m_t.2.2, .ref a2, g8, g9, g10, g11, g12, g13, g14, g15, g16, g17, g18, .ref a3, g19, g20, g21, g22, g23, g24, g25, g26, g27, g28, g29, g30, g31, g32]))])) [0] rfl) (hK.sub (tys' := ([])) [] rfl) (hD.sub (ws' := ([(a0, .inr (9, [.int 0, .int m_t.2.1, .int m_t.2.2, .ref a2, g8, g9, g10, g11, g12, g13, g14, g15, g16, g17, g18, .ref a3, g19, g20, g21, g22, g23, g24, g25, g26, g27, g28, g29, g30, g31, g32]))])) [0] (by decide) rfl) hN 0 rfl rfl) rfl rfl hl.1 rfl (lv_room (Nat.le_of_ble_eq_true rfl)) dX12_surest_17 ⟨(Nat.le_of_ble_eq_true rfl), (Nat.le_of_ble_eq_true rfl)⟩) hP hD hK hS hA [0] [1, 2, 3, 4, 5, 6, 7, 8, 9, 10, 11, 12, 13, 14, 15, 16] rfl rfl (by decide) (by decide) (fun r17 _ H locs hw hP hD _ hS => ?_)
    obtain rfl := hw
    have hP : va_P (dC, dI) vwCl (bX11 a2 uq kq q_q ([(a3, .inl (cB34, 26, .inl m_v)), (a0, .inr (9, [.int o17.1, .int o17.2.1, .int o17.2.2, .ref a2, g8, g9, g10, g11, g12, g13, g14, g15, g16, g17, g18, .ref a3, g19, g20, g21, g22, g23, g24, g25, g26, g27, g28, g29, g30, g31, g32]))])) H := hP
    have hD : va_D A (bX11 a2 uq kq q_q ([(a3, .inl (cB34, 26, .inl m_v)), (a0, .inr (9, [.int o17.1, .int o17.2.1, .int o17.2.2, .ref a2, g8, g9, g10, g11, g12, g13, g14, g15, g16, g17, g18, .ref a3, g19, g20, g21, g22, g23, g24, g25, g26, g27, g28, g29, g30, g31, g32]))])) := hD
    obtain rfl := Option.some.inj h
    have hP9 := hP.sub (ws' := ((a0, .inr (9, [.int o17.1, .int o17.2.1, .int o17.2.2, .ref a2, g8, g9, g10, g11, g12, g13, g14, g15, g16, g17, g18, .ref a3, g19, g20, g21, g22, g23, g24, g25, g26, g27, g28, g29, g30, g31, g32])) :: bX11 a2 uq kq q_q ([(a3, .inl (cB34, 26, .inl m_v))]))) [16, 0, 1, 2, 3, 4, 5, 6, 7, 8, 9, 10, 11, 12, 13, 14, 15] rfl
    have hD9 := hD.sub (ws' := ((a0, .inr (9, [.int o17.1, .int o17.2.1, .int o17.2.2, .ref a2, g8, g9, g10, g11, g12, g13, g14, g15, g16, g17, g18, .ref a3, g19, g20, g21, g22, g23, g24, g25, g26, g27, g28, g29, g30, g31, g32])) :: bX11 a2 uq kq q_q ([(a3, .inl (cB34, 26, .inl m_v))]))) [16, 0, 1, 2, 3, 4, 5, 6, 7, 8, 9, 10, 11, 12, 13, 14, 15] (by decide) rfl
    have hK9 := hK.sub (tys' := []) [] rfl
    rw [hQQ]
    exact W.iret (v := (-1 : Int32)) hx hb hr (fun t ht hW => ⟨⟨(-1 : Int32), (), rfl, rfl, by rw [ht]; exact hP9, va_K.moved hW.alike hK9, hD9⟩, hS.F ht⟩) hS.2.2 dX12_surest_20
theorem dX12_surestOdds_0 : decode cX12_surestOdds 0 = .ok (.aload_n 0, 1) := by decide +kernel
theorem dX12_surestOdds_1 : decode cX12_surestOdds 1 = .ok (.iconst 0, 1) := by decide +kernel
theorem dX12_surestOdds_10 : decode cX12_surestOdds 10 = .ok (.istore_n 3, 1) := by decide +kernel
theorem dX12_surestOdds_11 : decode cX12_surestOdds 11 = .ok (.iload_n 3, 1) := by decide +kernel
theorem dX12_surestOdds_12 : decode cX12_surestOdds 12 = .ok (.ifCond .le 10, 3) := by decide +kernel
theorem dX12_surestOdds_15 : decode cX12_surestOdds 15 = .ok (.aload_n 0, 1) := by decide +kernel
theorem dX12_surestOdds_16 : decode cX12_surestOdds 16 = .ok (.iload_n 3, 1) := by decide +kernel
theorem dX12_surestOdds_17 : decode cX12_surestOdds 17 = .ok (.invokevirtual 42, 3) := by decide +kernel
theorem dX12_surestOdds_2 : decode cX12_surestOdds 2 = .ok (.putfield 36, 3) := by decide +kernel
theorem dX12_surestOdds_20 : decode cX12_surestOdds 20 = .ok (.i2l, 1) := by decide +kernel
theorem dX12_surestOdds_21 : decode cX12_surestOdds 21 = .ok (.lreturn, 1) := by decide +kernel
theorem dX12_surestOdds_22 : decode cX12_surestOdds 22 = .ok (.aload_n 0, 1) := by decide +kernel
theorem dX12_surestOdds_23 : decode cX12_surestOdds 23 = .ok (.iload_n 1, 1) := by decide +kernel
theorem dX12_surestOdds_24 : decode cX12_surestOdds 24 = .ok (.invokevirtual 380, 3) := by decide +kernel
theorem dX12_surestOdds_27 : decode cX12_surestOdds 27 = .ok (.istore 4, 2) := by decide +kernel
theorem dX12_surestOdds_29 : decode cX12_surestOdds 29 = .ok (.aload_n 0, 1) := by decide +kernel
theorem dX12_surestOdds_30 : decode cX12_surestOdds 30 = .ok (.iload 4, 2) := by decide +kernel
theorem dX12_surestOdds_32 : decode cX12_surestOdds 32 = .ok (.bipush (-2), 2) := by decide +kernel
theorem dX12_surestOdds_34 : decode cX12_surestOdds 34 = .ok (.if_icmp .ne 7, 3) := by decide +kernel
theorem dX12_surestOdds_37 : decode cX12_surestOdds 37 = .ok (.lconst 0, 1) := by decide +kernel
theorem dX12_surestOdds_38 : decode cX12_surestOdds 38 = .ok (.goto 10, 3) := by decide +kernel
theorem dX12_surestOdds_41 : decode cX12_surestOdds 41 = .ok (.aload_n 0, 1) := by decide +kernel
theorem dX12_surestOdds_42 : decode cX12_surestOdds 42 = .ok (.iload_n 1, 1) := by decide +kernel
theorem dX12_surestOdds_43 : decode cX12_surestOdds 43 = .ok (.iload 4, 2) := by decide +kernel
theorem dX12_surestOdds_45 : decode cX12_surestOdds 45 = .ok (.invokevirtual 349, 3) := by decide +kernel
theorem dX12_surestOdds_48 : decode cX12_surestOdds 48 = .ok (.aload_n 0, 1) := by decide +kernel
theorem dX12_surestOdds_49 : decode cX12_surestOdds 49 = .ok (.invokevirtual 360, 3) := by decide +kernel
theorem dX12_surestOdds_5 : decode cX12_surestOdds 5 = .ok (.aload_n 0, 1) := by decide +kernel
theorem dX12_surestOdds_52 : decode cX12_surestOdds 52 = .ok (.iload_n 2, 1) := by decide +kernel
theorem dX12_surestOdds_53 : decode cX12_surestOdds 53 = .ok (.invokevirtual 363, 3) := by decide +kernel
theorem dX12_surestOdds_56 : decode cX12_surestOdds 56 = .ok (.lreturn, 1) := by decide +kernel
theorem dX12_surestOdds_6 : decode cX12_surestOdds 6 = .ok (.iload_n 1, 1) := by decide +kernel
theorem dX12_surestOdds_7 : decode cX12_surestOdds 7 = .ok (.invokevirtual 377, 3) := by decide +kernel
def vfX12_surestOdds : List Cond := List.cons (.code yX12_surestOdds cX12_surestOdds 5 (some .long)) (apW [.fieldLink RX12 36 "HookPierModel" "thrown" "I", .methodLink RX12 377 yX12_refusesSure, .instanceMethod yX12_refusesSure, .selects RX12 yX12_refusesSure yX12_refusesSure, .initialized RX12, .methodLink RX12 380 yX12_sureQuestion, .instanceMethod yX12_sureQuestion, .selects RX12 yX12_sureQuestion yX12_sureQuestion, .methodLink RX12 360 yX12_whole, .instanceMethod yX12_whole, .selects RX12 yX12_whole yX12_whole, .methodLink RX12 363 yX12_fraction, .instanceMethod yX12_fraction, .selects RX12 yX12_fraction yX12_fraction, .methodLink RX12 349 yX12_oddsOf, .instanceMethod yX12_oddsOf, .selects RX12 yX12_oddsOf yX12_oddsOf, .methodLink RX12 42 yX12_refused, .instanceMethod yX12_refused, .selects RX12 yX12_refused yX12_refused] (apW wsX120 (apW vfX12_refusesSure (apW vfX12_sureQuestion (apW vfX12_whole (apW vfX12_fraction (apW vfX12_oddsOf (vfX12_refused))))))))
theorem ifX12_surestOdds_X12 : ∀ w ∈ wsX120, w ∈ vfX12_surestOdds := fun _ h => (List.mem_cons_of_mem _ (List.mem_append_right _ (List.mem_append_left _ h)))
theorem qfX12_surestOdds : Good vfX12_surestOdds := gd_cons (by decide +kernel) (gd_app (gd_dec (by decide +kernel) : Good [.fieldLink RX12 36 "HookPierModel" "thrown" "I", .methodLink RX12 377 yX12_refusesSure, .instanceMethod yX12_refusesSure, .selects RX12 yX12_refusesSure yX12_refusesSure, .initialized RX12, .methodLink RX12 380 yX12_sureQuestion, .instanceMethod yX12_sureQuestion, .selects RX12 yX12_sureQuestion yX12_sureQuestion, .methodLink RX12 360 yX12_whole, .instanceMethod yX12_whole, .selects RX12 yX12_whole yX12_whole, .methodLink RX12 363 yX12_fraction, .instanceMethod yX12_fraction, .selects RX12 yX12_fraction yX12_fraction, .methodLink RX12 349 yX12_oddsOf, .instanceMethod yX12_oddsOf, .selects RX12 yX12_oddsOf yX12_oddsOf, .methodLink RX12 42 yX12_refused, .instanceMethod yX12_refused, .selects RX12 yX12_refused yX12_refused]) (gd_app qsX12 (gd_app qfX12_refusesSure (gd_app qfX12_sureQuestion (gd_app qfX12_whole (gd_app qfX12_fraction (gd_app qfX12_oddsOf qfX12_refused)))))))
theorem gfX12_surestOdds_0 : GoodIn vfX12_surestOdds (wsV RX12 377 RX12 yX12_refusesSure vfX12_refusesSure) := goodIn_app (goodIn_r [.methodLink RX12 377 yX12_refusesSure, .instanceMethod yX12_refusesSure, .selects RX12 yX12_refusesSure yX12_refusesSure, .initialized RX12] [2, 3, 4, 5] rfl (by decide +kernel)) (goodIn_m (fun _ h => (List.mem_cons_of_mem _ (List.mem_append_right _ (List.mem_append_right _ (List.mem_append_left _ h))))) qfX12_refusesSure)
theorem gfX12_surestOdds_1 : GoodIn vfX12_surestOdds (wsV RX12 380 RX12 yX12_sureQuestion vfX12_sureQuestion) := goodIn_app (goodIn_r [.methodLink RX12 380 yX12_sureQuestion, .instanceMethod yX12_sureQuestion, .selects RX12 yX12_sureQuestion yX12_sureQuestion, .initialized RX12] [6, 7, 8, 5] rfl (by decide +kernel)) (goodIn_m (fun _ h => (List.mem_cons_of_mem _ (List.mem_append_right _ (List.mem_append_right _ (List.mem_append_right _ (List.mem_append_left _ h)))))) qfX12_sureQuestion)
theorem gfX12_surestOdds_2 : GoodIn vfX12_surestOdds (wsV RX12 360 RX12 yX12_whole vfX12_whole) := goodIn_app (goodIn_r [.methodLink RX12 360 yX12_whole, .instanceMethod yX12_whole, .selects RX12 yX12_whole yX12_whole, .initialized RX12] [9, 10, 11, 5] rfl (by decide +kernel)) (goodIn_m (fun _ h => (List.mem_cons_of_mem _ (List.mem_append_right _ (List.mem_append_right _ (List.mem_append_right _ (List.mem_append_right _ (List.mem_append_left _ h))))))) qfX12_whole)
theorem gfX12_surestOdds_3 : GoodIn vfX12_surestOdds (wsV RX12 363 RX12 yX12_fraction vfX12_fraction) := goodIn_app (goodIn_r [.methodLink RX12 363 yX12_fraction, .instanceMethod yX12_fraction, .selects RX12 yX12_fraction yX12_fraction, .initialized RX12] [12, 13, 14, 5] rfl (by decide +kernel)) (goodIn_m (fun _ h => (List.mem_cons_of_mem _ (List.mem_append_right _ (List.mem_append_right _ (List.mem_append_right _ (List.mem_append_right _ (List.mem_append_right _ (List.mem_append_left _ h)))))))) qfX12_fraction)
theorem gfX12_surestOdds_4 : GoodIn vfX12_surestOdds (wsV RX12 349 RX12 yX12_oddsOf vfX12_oddsOf) := goodIn_app (goodIn_r [.methodLink RX12 349 yX12_oddsOf, .instanceMethod yX12_oddsOf, .selects RX12 yX12_oddsOf yX12_oddsOf, .initialized RX12] [15, 16, 17, 5] rfl (by decide +kernel)) (goodIn_m (fun _ h => (List.mem_cons_of_mem _ (List.mem_append_right _ (List.mem_append_right _ (List.mem_append_right _ (List.mem_append_right _ (List.mem_append_right _ (List.mem_append_right _ (List.mem_append_left _ h))))))))) qfX12_oddsOf)
theorem gfX12_surestOdds_5 : GoodIn vfX12_surestOdds (wsV RX12 42 RX12 yX12_refused vfX12_refused) := goodIn_app (goodIn_r [.methodLink RX12 42 yX12_refused, .instanceMethod yX12_refused, .selects RX12 yX12_refused yX12_refused, .initialized RX12] [18, 19, 20, 5] rfl (by decide +kernel)) (goodIn_m (fun _ h => (List.mem_cons_of_mem _ (List.mem_append_right _ (List.mem_append_right _ (List.mem_append_right _ (List.mem_append_right _ (List.mem_append_right _ (List.mem_append_right _ (List.mem_append_right _ h))))))))) qfX12_refused)
set_option maxHeartbeats 2000000 in
set_option maxRecDepth 100000 in
theorem kfX12_surestOdds (l : Launch) (dC : Nat → ClassId) (dI : Nat → Nat → Nat) (a0 : Nat) (k1 : Int32) (k2 : Int32) (a3 : Nat) (a4 : Nat) (uq : Nat → Nat) (kq : Nat → ClassId) (m_t : TX12_t) (m_v : TX12_v) (g9 : Value) (g10 : Value) (g11 : Value) (g12 : Value) (g13 : Value) (g14 : Value) (g15 : Value) (g16 : Value) (g17 : Value) (g18 : Value) (g19 : Value) (g20 : Value) (g21 : Value) (g22 : Value) (g23 : Value) (g24 : Value) (g25 : Value) (g26 : Value) (g27 : Value) (g28 : Value) (g29 : Value) (g30 : Value) (g31 : Value) (g32 : Value) (g33 : Value) (q_q : TX11_q) (cB35 : ClassId) (sz : Nat) (out : (Int64 × TX12_t)) (h : f_X12_surestOdds k1 k2 m_t m_v q_q = some out) : Met l yX12_surestOdds vfX12_surestOdds ({ frames := 6, cells := 0, slots := 0, locals := 143 }) (PC (dC, dI) [.ref a0, .int k1, .int k2] sz ((a0, .inr (9, [.int m_t.1, .int m_t.2.1, .int m_t.2.2, .ref a3, g9, g10, g11, g12, g13, g14, g15, g16, g17, g18, g19, .ref a4, g20, g21, g22, g23, g24, g25, g26, g27, g28, g29, g30, g31, g32, g33])) :: bX11 a3 uq kq q_q ([(a4, .inl (cB35, 26, .inl m_v))])) (tX11 kq ((cB35, .int) :: []))) (va_Ql (S := Unit) (fun (r : Int64) _ => r = out.1) (fun _ t => BC (dC, dI) (va_A ((a0, .inr (9, [.int m_t.1, .int m_t.2.1, .int m_t.2.2, .ref a3, g9, g10, g11, g12, g13, g14, g15, g16, g17, g18, g19, .ref a4, g20, g21, g22, g23, g24, g25, g26, g27, g28, g29, g30, g31, g32, g33])) :: bX11 a3 uq kq q_q ([(a4, .inl (cB35, 26, .inl m_v))])) sz) ((a0, .inr (9, [.int out.2.1, .int out.2.2.1, .int out.2.2.2, .ref a3, g9, g10, g11, g12, g13, g14, g15, g16, g17, g18, g19, .ref a4, g20, g21, g22, g23, g24, g25, g26, g27, g28, g29, g30, g31, g32, g33])) :: bX11 a3 uq kq q_q ([(a4, .inl (cB35, 26, .inl m_v))])) [] t) (va_A ((a0, .inr (9, [.int m_t.1, .int m_t.2.1, .int m_t.2.2, .ref a3, g9, g10, g11, g12, g13, g14, g15, g16, g17, g18, g19, .ref a4, g20, g21, g22, g23, g24, g25, g26, g27, g28, g29, g30, g31, g32, g33])) :: bX11 a3 uq kq q_q ([(a4, .inl (cB35, 26, .inl m_v))])) sz)) 0 0 (va_A ((a0, .inr (9, [.int m_t.1, .int m_t.2.1, .int m_t.2.2, .ref a3, g9, g10, g11, g12, g13, g14, g15, g16, g17, g18, g19, .ref a4, g20, g21, g22, g23, g24, g25, g26, g27, g28, g29, g30, g31, g32, g33])) :: bX11 a3 uq kq q_q ([(a4, .inl (cB35, 26, .inl m_v))])) sz) := by
  refine Met.ofW (cc := cX12_surestOdds) (maxL := 5) (ret := (some .long)) (by decide) rfl ?_
  intro p e s m args below meth c s₁ B0 hml hv
  obtain ⟨rfl, hsz, hP, hK, hD0, hN⟩ := hv
  have hx := B0.exec
  have hb := B0.bytes
  have hr := B0.returns
  have hts := atoms_spec (ws := vfX12_surestOdds) B0.pre
  have hown : s.vm.findClass RX12 = some m.cls := findClass_of_methodNamed B0.named
  have hlocks := B0.notSynchronized
  subst hsz
  have hD := hD0.self (sz := s.heap.size)
  generalize hAe : va_A ((a0, .inr (9, [.int m_t.1, .int m_t.2.1, .int m_t.2.2, .ref a3, g9, g10, g11, g12, g13, g14, g15, g16, g17, g18, g19, .ref a4, g20, g21, g22, g23, g24, g25, g26, g27, g28, g29, g30, g31, g32, g33])) :: bX11 a3 uq kq q_q ([(a4, .inl (cB35, 26, .inl m_v))])) s.heap.size = A at hD ⊢
  have hA : ∀ q : Nat, s.heap.size ≤ q → A q := fun q h => by rw [← hAe]; exact Or.inr h
  have hS : va_S A s.heap s.heap [] := va_S.rf
  have hP : va_P (dC, dI) vwCl ((a0, .inr (9, [.int m_t.1, .int m_t.2.1, .int m_t.2.2, .ref a3, g9, g10, g11, g12, g13, g14, g15, g16, g17, g18, g19, .ref a4, g20, g21, g22, g23, g24, g25, g26, g27, g28, g29, g30, g31, g32, g33])) :: bX11 a3 uq kq q_q ([(a4, .inl (cB35, 26, .inl m_v))])) s.heap := hP
  have hl := lv_entry ([.ref a0, .int k1, .int k2]) (n := 5) (Nat.le_of_ble_eq_true rfl)
  rw [lg_entry_eq]
  generalize (lg_sl ([.ref a0, .int k1, .int k2]) ++ List.replicate (5 - (lg_sl ([.ref a0, .int k1, .int k2])).length) Slot.unset).toArray = ls at hl ⊢
  have hl : lv_has ls 5 [(0, .ref a0), (1, .int k1), (2, .int k2)] := hl
  refine W_q (fun QQ hQQ => ?_)
  rw [f_X12_surestOdds] at h
  refine lv_aload_n hx hb dX12_surestOdds_0 rfl (lv_at hl 0 rfl) ?_
  refine lv_iconst (v := 0) hx hb dX12_surestOdds_1 (by decide) ?_
  refine va_put (D := (dC, dI)) (ci := 9) (v := .int 0) (ty := .int) (C := RX12) (T := TX12) (N := 30) hx hb hts ifX12_surestOdds_X12 tyX12 tyX12_ok nmX12 hown hK hP hD hS 0 rfl rfl 0 (by decide) (hts (.fieldLink RX12 36 "HookPierModel" "thrown" "I") (List.mem_of_getElem? (i := 1) rfl)) (fun _ h9 => h9) rfl (by decide +kernel) rfl rfl (Nat.le_of_ble_eq_true rfl) dX12_surestOdds_2 (fun H locs hP hD hS => ?_)
  have hP : va_P (dC, dI) vwCl ((a0, .inr (9, [.int 0, .int m_t.2.1, .int m_t.2.2, .ref a3, g9, g10, g11, g12, g13, g14, g15, g16, g17, g18, g19, .ref a4, g20, g21, g22, g23, g24, g25, g26, g27, g28, g29, g30, g31, g32, g33])) :: bX11 a3 uq kq q_q ([(a4, .inl (cB35, 26, .inl m_v))])) H := hP
  have hD : va_D A ((a0, .inr (9, [.int 0, .int m_t.2.1, .int m_t.2.2, .ref a3, g9, g10, g11, g12, g13, g14, g15, g16, g17, g18, g19, .ref a4, g20, g21, g22, g23, g24, g25, g26, g27, g28, g29, g30, g31, g32, g33])) :: bX11 a3 uq kq q_q ([(a4, .inl (cB35, 26, .inl m_v))])) := hD
  refine lv_aload_n hx hb dX12_surestOdds_5 rfl (lv_at hl 0 rfl) ?_
  refine lv_iload_n hx hb dX12_surestOdds_6 rfl (lv_at hl 1 rfl) ?_
  obtain ⟨o7, eo7, h⟩ := bd_of h
  refine cl_i (wc := ((a0, .inr (9, [.int 0, .int m_t.2.1, .int m_t.2.2, .ref a3, g9, g10, g11, g12, g13, g14, g15, g16, g17, g18, g19, .ref a4, g20, g21, g22, g23, g24, g25, g26, g27, g28, g29, g30, g31, g32, g33])) :: bX11 a3 uq kq q_q ([(a4, .inl (cB35, 26, .inl m_v))]))) (wr := []) (va_runV (As := [.int k1]) (rest := []) ⟨hx, hb, hml, hown, hts⟩ (kfX12_refusesSure l dC dI a0 k1 a3 a4 uq kq m_v (.int 0) (.int m_t.2.1) (.int m_t.2.2) (g9) (g10) (g11) (g12) (g13) (g14) (g15) (g16) (g17) (g18) (g19) (g20) (g21) (g22) (g23) (g24) (g25) (g26) (g27) (g28) (g29) (g30) (g31) (g32) (g33) q_q cB35 H.size o7 eo7) (cwV 1 hts gfX12_surestOdds_0 rfl rfl rfl (by decide +kernel) ⟨(Nat.le_of_ble_eq_true rfl), (Nat.le_of_ble_eq_true rfl)⟩) (PV (hP.sub (ws' := ((a0, .inr (9, [.int 0, .int m_t.2.1, .int m_t.2.2, .ref a3, g9, g10, g11, g12, g13, g14, g15, g16, g17, g18, g19, .ref a4, g20, g21, g22, g23, g24, g25, g26, g27, g28, g29, g30, g31, g32, g33])) :: bX11 a3 uq kq q_q ([(a4, .inl (cB35, 26, .inl m_v))]))) [0, 1, 2, 3, 4, 5, 6, 7, 8, 9, 10, 11, 12, 13, 14, 15, 16] rfl) (hK.sub (tys' := (tX11 kq ((cB35, .int) :: []))) [0, 1, 2, 3, 4, 5, 6, 7, 8, 9, 10, 11, 12, 13, 14] rfl) (hD.sub (ws' := ((a0, .inr (9, [.int 0, .int m_t.2.1, .int m_t.2.2, .ref a3, g9, g10, g11, g12, g13, g14, g15, g16, g17, g18, g19, .ref a4, g20, g21, g22, g23, g24, g25, g26, g27, g28, g29, g30, g31, g32, g33])) :: bX11 a3 uq kq q_q ([(a4, .inl (cB35, 26, .inl m_v))]))) [0, 1, 2, 3, 4, 5, 6, 7, 8, 9, 10, 11, 12, 13, 14, 15, 16] (by decide) rfl) hN 0 rfl rfl) rfl rfl hl.1 rfl (lv_room (Nat.le_of_ble_eq_true rfl)) dX12_surestOdds_7 ⟨(Nat.le_of_ble_eq_true rfl), (Nat.le_of_ble_eq_true rfl)⟩) hP hD hK hS hA [0, 1, 2, 3, 4, 5, 6, 7, 8, 9, 10, 11, 12, 13, 14, 15, 16] [] rfl rfl (by decide) (by decide) (fun r7 _ H locs hw hP hD _ hS => ?_)
  obtain rfl := hw.symm
  have hP : va_P (dC, dI) vwCl ((a0, .inr (9, [.int 0, .int m_t.2.1, .int m_t.2.2, .ref a3, g9, g10, g11, g12, g13, g14, g15, g16, g17, g18, g19, .ref a4, g20, g21, g22, g23, g24, g25, g26, g27, g28, g29, g30, g31, g32, g33])) :: bX11 a3 uq kq q_q ([(a4, .inl (cB35, 26, .inl m_v))])) H := hP
  have hD : va_D A ((a0, .inr (9, [.int 0, .int m_t.2.1, .int m_t.2.2, .ref a3, g9, g10, g11, g12, g13, g14, g15, g16, g17, g18, g19, .ref a4, g20, g21, g22, g23, g24, g25, g26, g27, g28, g29, g30, g31, g32, g33])) :: bX11 a3 uq kq q_q ([(a4, .inl (cB35, 26, .inl m_v))])) := hD
  refine lv_istore_n (lv' := [(3, .int o7), (0, .ref a0), (1, .int k1), (2, .int k2)]) hx hb dX12_surestOdds_10 rfl hl (by decide) rfl (fun ls hl => ?_)
  refine lv_iload_n hx hb dX12_surestOdds_11 rfl (lv_at hl 0 rfl) ?_
  refine lv_if_le (tgt := 22) hx hb dX12_surestOdds_12 (by decide) (fun c12 => ?_) (fun c12 => ?_)
  · have h := (if_pos c12).symm.trans h
    refine lv_aload_n hx hb dX12_surestOdds_22 rfl (lv_at hl 1 rfl) ?_
    refine lv_iload_n hx hb dX12_surestOdds_23 rfl (lv_at hl 2 rfl) ?_
    obtain ⟨o24, eo24, h⟩ := bd_of h
    refine cl_i (wc := ((a0, .inr (9, [.int 0, .int m_t.2.1, .int m_t.2.2, .ref a3, g9, g10, g11, g12, g13, g14, g15, g16, g17, g18, g19, .ref a4, g20, g21, g22, g23, g24, g25, g26, g27, g28, g29, g30, g31, g32, g33])) :: bX11 a3 uq kq q_q ([(a4, .inl (cB35, 26, .inl m_v))]))) (wr := []) (va_runV (As := [.int k1]) (rest := []) ⟨hx, hb, hml, hown, hts⟩ (kfX12_sureQuestion l dC dI a0 k1 a3 a4 uq kq m_v (.int 0) (.int m_t.2.1) (.int m_t.2.2) (g9) (g10) (g11) (g12) (g13) (g14) (g15) (g16) (g17) (g18) (g19) (g20) (g21) (g22) (g23) (g24) (g25) (g26) (g27) (g28) (g29) (g30) (g31) (g32) (g33) q_q cB35 H.size o24 eo24) (cwV 1 hts gfX12_surestOdds_1 rfl rfl rfl (by decide +kernel) ⟨(Nat.le_of_ble_eq_true rfl), (Nat.le_of_ble_eq_true rfl)⟩) (PV (hP.sub (ws' := ((a0, .inr (9, [.int 0, .int m_t.2.1, .int m_t.2.2, .ref a3, g9, g10, g11, g12, g13, g14, g15, g16, g17, g18, g19, .ref a4, g20, g21, g22, g23, g24, g25, g26, g27, g28, g29, g30, g31, g32, g33])) :: bX11 a3 uq kq q_q ([(a4, .inl (cB35, 26, .inl m_v))]))) [0, 1, 2, 3, 4, 5, 6, 7, 8, 9, 10, 11, 12, 13, 14, 15, 16] rfl) (hK.sub (tys' := (tX11 kq ((cB35, .int) :: []))) [0, 1, 2, 3, 4, 5, 6, 7, 8, 9, 10, 11, 12, 13, 14] rfl) (hD.sub (ws' := ((a0, .inr (9, [.int 0, .int m_t.2.1, .int m_t.2.2, .ref a3, g9, g10, g11, g12, g13, g14, g15, g16, g17, g18, g19, .ref a4, g20, g21, g22, g23, g24, g25, g26, g27, g28, g29, g30, g31, g32, g33])) :: bX11 a3 uq kq q_q ([(a4, .inl (cB35, 26, .inl m_v))]))) [0, 1, 2, 3, 4, 5, 6, 7, 8, 9, 10, 11, 12, 13, 14, 15, 16] (by decide) rfl) hN 0 rfl rfl) rfl rfl hl.1 rfl (lv_room (Nat.le_of_ble_eq_true rfl)) dX12_surestOdds_24 ⟨(Nat.le_of_ble_eq_true rfl), (Nat.le_of_ble_eq_true rfl)⟩) hP hD hK hS hA [0, 1, 2, 3, 4, 5, 6, 7, 8, 9, 10, 11, 12, 13, 14, 15, 16] [] rfl rfl (by decide) (by decide) (fun r24 _ H locs hw hP hD _ hS => ?_)
    obtain rfl := hw.symm
    have hP : va_P (dC, dI) vwCl ((a0, .inr (9, [.int 0, .int m_t.2.1, .int m_t.2.2, .ref a3, g9, g10, g11, g12, g13, g14, g15, g16, g17, g18, g19, .ref a4, g20, g21, g22, g23, g24, g25, g26, g27, g28, g29, g30, g31, g32, g33])) :: bX11 a3 uq kq q_q ([(a4, .inl (cB35, 26, .inl m_v))])) H := hP
    have hD : va_D A ((a0, .inr (9, [.int 0, .int m_t.2.1, .int m_t.2.2, .ref a3, g9, g10, g11, g12, g13, g14, g15, g16, g17, g18, g19, .ref a4, g20, g21, g22, g23, g24, g25, g26, g27, g28, g29, g30, g31, g32, g33])) :: bX11 a3 uq kq q_q ([(a4, .inl (cB35, 26, .inl m_v))])) := hD
    refine lv_istore (lv' := [(4, .int o24), (3, .int o7), (0, .ref a0), (1, .int k1), (2, .int k2)]) hx hb dX12_surestOdds_27 hl (by decide) rfl (fun ls hl => ?_)
    refine lv_aload_n hx hb dX12_surestOdds_29 rfl (lv_at hl 2 rfl) ?_
    refine lv_iload hx hb dX12_surestOdds_30 (lv_at hl 0 rfl) ?_
    refine lv_bipush (v := (-2)) hx hb dX12_surestOdds_32 (by decide) ?_
    have J48 : ∀ (v48_t1 : Int64) (H : Heap) (locs : List Loc) (ls : Array Slot), f_X12_surestOdds_J48 k2 m_t m_v q_q v48_t1 = some out → va_P (dC, dI) vwCl ((a0, .inr (9, [.int 0, .int m_t.2.1, .int m_t.2.2, .ref a3, g9, g10, g11, g12, g13, g14, g15, g16, g17, g18, g19, .ref a4, g20, g21, g22, g23, g24, g25, g26, g27, g28, g29, g30, g31, g32, g33])) :: bX11 a3 uq kq q_q ([(a4, .inl (cB35, 26, .inl m_v))])) H → va_D A ((a0, .inr (9, [.int 0, .int m_t.2.1, .int m_t.2.2, .ref a3, g9, g10, g11, g12, g13, g14, g15, g16, g17, g18, g19, .ref a4, g20, g21, g22, g23, g24, g25, g26, g27, g28, g29, g30, g31, g32, g33])) :: bX11 a3 uq kq q_q ([(a4, .inl (cB35, 26, .inl m_v))])) → va_S A s.heap H locs → lv_has ls 5 [(0, .ref a0), (2, .int k2)] → W p l e (headSpec vfX12_surestOdds { frames := 6, cells := 0, slots := 0, locals := 143 }).room s m ([.ref a0, .int k1, .int k2]).toArray below meth c H locs 0 0 QQ (F0 m 48 ls [.long v48_t1, .ref a0]) := by
      intro v48_t1 H locs ls h  hP hD hS hl
      rw [f_X12_surestOdds_J48] at h
      refine lv_aload_n hx hb dX12_surestOdds_48 rfl (lv_at hl 0 rfl) ?_
      obtain ⟨o49, eo49, h⟩ := bd_of h
      refine cl_l (wc := ((a0, .inr (9, [.int 0, .int m_t.2.1, .int m_t.2.2, .ref a3, g9, g10, g11, g12, g13, g14, g15, g16, g17, g18, g19, .ref a4, g20, g21, g22, g23, g24, g25, g26, g27, g28, g29, g30, g31, g32, g33])) :: bX11 a3 uq kq q_q ([(a4, .inl (cB35, 26, .inl m_v))]))) (wr := []) (va_runV (As := []) (rest := [.long v48_t1, .ref a0]) ⟨hx, hb, hml, hown, hts⟩ (kfX12_whole l dC dI a0 a3 a4 uq kq m_v (.int 0) (.int m_t.2.1) (.int m_t.2.2) (g9) (g10) (g11) (g12) (g13) (g14) (g15) (g16) (g17) (g18) (g19) (g20) (g21) (g22) (g23) (g24) (g25) (g26) (g27) (g28) (g29) (g30) (g31) (g32) (g33) q_q cB35 H.size o49 eo49) (cwV 0 hts gfX12_surestOdds_2 rfl rfl rfl (by decide +kernel) ⟨(Nat.le_of_ble_eq_true rfl), (Nat.le_of_ble_eq_true rfl)⟩) (PV (hP.sub (ws' := ((a0, .inr (9, [.int 0, .int m_t.2.1, .int m_t.2.2, .ref a3, g9, g10, g11, g12, g13, g14, g15, g16, g17, g18, g19, .ref a4, g20, g21, g22, g23, g24, g25, g26, g27, g28, g29, g30, g31, g32, g33])) :: bX11 a3 uq kq q_q ([(a4, .inl (cB35, 26, .inl m_v))]))) [0, 1, 2, 3, 4, 5, 6, 7, 8, 9, 10, 11, 12, 13, 14, 15, 16] rfl) (hK.sub (tys' := (tX11 kq ((cB35, .int) :: []))) [0, 1, 2, 3, 4, 5, 6, 7, 8, 9, 10, 11, 12, 13, 14] rfl) (hD.sub (ws' := ((a0, .inr (9, [.int 0, .int m_t.2.1, .int m_t.2.2, .ref a3, g9, g10, g11, g12, g13, g14, g15, g16, g17, g18, g19, .ref a4, g20, g21, g22, g23, g24, g25, g26, g27, g28, g29, g30, g31, g32, g33])) :: bX11 a3 uq kq q_q ([(a4, .inl (cB35, 26, .inl m_v))]))) [0, 1, 2, 3, 4, 5, 6, 7, 8, 9, 10, 11, 12, 13, 14, 15, 16] (by decide) rfl) hN 0 rfl rfl) rfl rfl hl.1 rfl (lv_room (Nat.le_of_ble_eq_true rfl)) dX12_surestOdds_49 ⟨(Nat.le_of_ble_eq_true rfl), (Nat.le_of_ble_eq_true rfl)⟩) hP hD hK hS hA [0, 1, 2, 3, 4, 5, 6, 7, 8, 9, 10, 11, 12, 13, 14, 15, 16] [] rfl rfl (by decide) (by decide) (fun r49 _ H locs hw hP hD _ hS => ?_)
      obtain rfl := hw.symm
      have hP : va_P (dC, dI) vwCl ((a0, .inr (9, [.int 0, .int m_t.2.1, .int m_t.2.2, .ref a3, g9, g10, g11, g12, g13, g14, g15, g16, g17, g18, g19, .ref a4, g20, g21, g22, g23, g24, g25, g26, g27, g28, g29, g30, g31, g32, g33])) :: bX11 a3 uq kq q_q ([(a4, .inl (cB35, 26, .inl m_v))])) H := hP
      have hD : va_D A ((a0, .inr (9, [.int 0, .int m_t.2.1, .int m_t.2.2, .ref a3, g9, g10, g11, g12, g13, g14, g15, g16, g17, g18, g19, .ref a4, g20, g21, g22, g23, g24, g25, g26, g27, g28, g29, g30, g31, g32, g33])) :: bX11 a3 uq kq q_q ([(a4, .inl (cB35, 26, .inl m_v))])) := hD
      refine lv_iload_n hx hb dX12_surestOdds_52 rfl (lv_at hl 1 rfl) ?_
      obtain ⟨o53, eo53, h⟩ := bd_of h
      refine cl_l (wc := ([(a0, .inr (9, [.int 0, .int m_t.2.1, .int m_t.2.2, .ref a3, g9, g10, g11, g12, g13, g14, g15, g16, g17, g18, g19, .ref a4, g20, g21, g22, g23, g24, g25, g26, g27, g28, g29, g30, g31, g32, g33]))])) (wr := (bX11 a3 uq kq q_q ([(a4, .inl (cB35, 26, .inl m_v))]))) (va_runV (As := [.long v48_t1, .long o49, .int k2]) (rest := []) ⟨hx, hb, hml, hown, hts⟩ (kfX12_fraction l dC dI a0 v48_t1 o49 k2 ((0 : Int32), m_t.2) (.ref a3) (g9) (g10) (g11) (g12) (g13) (g14) (g15) (g16) (g17) (g18) (g19) (.ref a4) (g20) (g21) (g22) (g23) (g24) (g25) (g26) (g27) (g28) (g29) (g30) (g31) (g32) (g33) H.size o53 eo53) (cwV 3 hts gfX12_surestOdds_3 rfl rfl rfl (by decide +kernel) ⟨(Nat.le_of_ble_eq_true rfl), (Nat.le_of_ble_eq_true rfl)⟩) (PV (hP.sub (ws' := ([(a0, .inr (9, [.int 0, .int m_t.2.1, .int m_t.2.2, .ref a3, g9, g10, g11, g12, g13, g14, g15, g16, g17, g18, g19, .ref a4, g20, g21, g22, g23, g24, g25, g26, g27, g28, g29, g30, g31, g32, g33]))])) [0] rfl) (hK.sub (tys' := ([])) [] rfl) (hD.sub (ws' := ([(a0, .inr (9, [.int 0, .int m_t.2.1, .int m_t.2.2, .ref a3, g9, g10, g11, g12, g13, g14, g15, g16, g17, g18, g19, .ref a4, g20, g21, g22, g23, g24, g25, g26, g27, g28, g29, g30, g31, g32, g33]))])) [0] (by decide) rfl) hN 0 rfl rfl) rfl rfl hl.1 rfl (lv_room (Nat.le_of_ble_eq_true rfl)) dX12_surestOdds_53 ⟨(Nat.le_of_ble_eq_true rfl), (Nat.le_of_ble_eq_true rfl)⟩) hP hD hK hS hA [0] [1, 2, 3, 4, 5, 6, 7, 8, 9, 10, 11, 12, 13, 14, 15, 16] rfl rfl (by decide) (by decide) (fun r53 _ H locs hw hP hD _ hS => ?_)
      obtain rfl := hw
      have hP : va_P (dC, dI) vwCl (bX11 a3 uq kq q_q ([(a4, .inl (cB35, 26, .inl m_v)), (a0, .inr (9, [.int o53.2.1, .int o53.2.2.1, .int o53.2.2.2, .ref a3, g9, g10, g11, g12, g13, g14, g15, g16, g17, g18, g19, .ref a4, g20, g21, g22, g23, g24, g25, g26, g27, g28, g29, g30, g31, g32, g33]))])) H := hP
      have hD : va_D A (bX11 a3 uq kq q_q ([(a4, .inl (cB35, 26, .inl m_v)), (a0, .inr (9, [.int o53.2.1, .int o53.2.2.1, .int o53.2.2.2, .ref a3, g9, g10, g11, g12, g13, g14, g15, g16, g17, g18, g19, .ref a4, g20, g21, g22, g23, g24, g25, g26, g27, g28, g29, g30, g31, g32, g33]))])) := hD
      obtain rfl := Option.some.inj h
      have hP9 := hP.sub (ws' := ((a0, .inr (9, [.int o53.2.1, .int o53.2.2.1, .int o53.2.2.2, .ref a3, g9, g10, g11, g12, g13, g14, g15, g16, g17, g18, g19, .ref a4, g20, g21, g22, g23, g24, g25, g26, g27, g28, g29, g30, g31, g32, g33])) :: bX11 a3 uq kq q_q ([(a4, .inl (cB35, 26, .inl m_v))]))) [16, 0, 1, 2, 3, 4, 5, 6, 7, 8, 9, 10, 11, 12, 13, 14, 15] rfl
      have hD9 := hD.sub (ws' := ((a0, .inr (9, [.int o53.2.1, .int o53.2.2.1, .int o53.2.2.2, .ref a3, g9, g10, g11, g12, g13, g14, g15, g16, g17, g18, g19, .ref a4, g20, g21, g22, g23, g24, g25, g26, g27, g28, g29, g30, g31, g32, g33])) :: bX11 a3 uq kq q_q ([(a4, .inl (cB35, 26, .inl m_v))]))) [16, 0, 1, 2, 3, 4, 5, 6, 7, 8, 9, 10, 11, 12, 13, 14, 15] (by decide) rfl
      have hK9 := hK.sub (tys' := []) [] rfl
      rw [hQQ]
      exact W.lret (v := o53.1) hx hb hr (fun t ht hW => ⟨⟨o53.1, (), rfl, rfl, by rw [ht]; exact hP9, va_K.moved hW.alike hK9, hD9⟩, hS.F ht⟩) hS.2.2 dX12_surestOdds_56
    refine lv_icmp_ne (tgt := 41) hx hb dX12_surestOdds_34 (by decide) (fun c34 => ?_) (fun c34 => ?_)
    · have h := (if_neg c34).symm.trans h
      refine lv_aload_n hx hb dX12_surestOdds_41 rfl (lv_at hl 2 rfl) ?_
      refine lv_iload_n hx hb dX12_surestOdds_42 rfl (lv_at hl 3 rfl) ?_
      refine lv_iload hx hb dX12_surestOdds_43 (lv_at hl 0 rfl) ?_
      obtain ⟨o45, eo45, h⟩ := bd_of h
      refine cl_l (wc := ((a0, .inr (9, [.int 0, .int m_t.2.1, .int m_t.2.2, .ref a3, g9, g10, g11, g12, g13, g14, g15, g16, g17, g18, g19, .ref a4, g20, g21, g22, g23, g24, g25, g26, g27, g28, g29, g30, g31, g32, g33])) :: bX11 a3 uq kq q_q ([(a4, .inl (cB35, 26, .inl m_v))]))) (wr := []) (va_runV (As := [.int k1, .int o24]) (rest := [.ref a0]) ⟨hx, hb, hml, hown, hts⟩ (kfX12_oddsOf l dC dI a0 k1 o24 a3 a4 uq kq m_v (.int 0) (.int m_t.2.1) (.int m_t.2.2) (g9) (g10) (g11) (g12) (g13) (g14) (g15) (g16) (g17) (g18) (g19) (g20) (g21) (g22) (g23) (g24) (g25) (g26) (g27) (g28) (g29) (g30) (g31) (g32) (g33) q_q cB35 H.size o45 eo45) (cwV 2 hts gfX12_surestOdds_4 rfl rfl rfl (by decide +kernel) ⟨(Nat.le_of_ble_eq_true rfl), (Nat.le_of_ble_eq_true rfl)⟩) (PV (hP.sub (ws' := ((a0, .inr (9, [.int 0, .int m_t.2.1, .int m_t.2.2, .ref a3, g9, g10, g11, g12, g13, g14, g15, g16, g17, g18, g19, .ref a4, g20, g21, g22, g23, g24, g25, g26, g27, g28, g29, g30, g31, g32, g33])) :: bX11 a3 uq kq q_q ([(a4, .inl (cB35, 26, .inl m_v))]))) [0, 1, 2, 3, 4, 5, 6, 7, 8, 9, 10, 11, 12, 13, 14, 15, 16] rfl) (hK.sub (tys' := (tX11 kq ((cB35, .int) :: []))) [0, 1, 2, 3, 4, 5, 6, 7, 8, 9, 10, 11, 12, 13, 14] rfl) (hD.sub (ws' := ((a0, .inr (9, [.int 0, .int m_t.2.1, .int m_t.2.2, .ref a3, g9, g10, g11, g12, g13, g14, g15, g16, g17, g18, g19, .ref a4, g20, g21, g22, g23, g24, g25, g26, g27, g28, g29, g30, g31, g32, g33])) :: bX11 a3 uq kq q_q ([(a4, .inl (cB35, 26, .inl m_v))]))) [0, 1, 2, 3, 4, 5, 6, 7, 8, 9, 10, 11, 12, 13, 14, 15, 16] (by decide) rfl) hN 0 rfl rfl) rfl rfl hl.1 rfl (lv_room (Nat.le_of_ble_eq_true rfl)) dX12_surestOdds_45 ⟨(Nat.le_of_ble_eq_true rfl), (Nat.le_of_ble_eq_true rfl)⟩) hP hD hK hS hA [0, 1, 2, 3, 4, 5, 6, 7, 8, 9, 10, 11, 12, 13, 14, 15, 16] [] rfl rfl (by decide) (by decide) (fun r45 _ H locs hw hP hD _ hS => ?_)
      obtain rfl := hw.symm
      have hP : va_P (dC, dI) vwCl ((a0, .inr (9, [.int 0, .int m_t.2.1, .int m_t.2.2, .ref a3, g9, g10, g11, g12, g13, g14, g15, g16, g17, g18, g19, .ref a4, g20, g21, g22, g23, g24, g25, g26, g27, g28, g29, g30, g31, g32, g33])) :: bX11 a3 uq kq q_q ([(a4, .inl (cB35, 26, .inl m_v))])) H := hP
      have hD : va_D A ((a0, .inr (9, [.int 0, .int m_t.2.1, .int m_t.2.2, .ref a3, g9, g10, g11, g12, g13, g14, g15, g16, g17, g18, g19, .ref a4, g20, g21, g22, g23, g24, g25, g26, g27, g28, g29, g30, g31, g32, g33])) :: bX11 a3 uq kq q_q ([(a4, .inl (cB35, 26, .inl m_v))])) := hD
      exact J48 o45 H _ ls h  hP hD hS (lv_sub hl [2, 4] rfl)
    · have h := (if_pos c34).symm.trans h
      refine lv_lconst (v := 0) hx hb dX12_surestOdds_37 (by decide) ?_
      refine lv_goto (tgt := 48) hx hb dX12_surestOdds_38 (by decide) ?_
      exact J48 (0 : Int64) H _ ls h  hP hD hS (lv_sub hl [2, 4] rfl)
  · have h := (if_neg c12).symm.trans h
    refine lv_aload_n hx hb dX12_surestOdds_15 rfl (lv_at hl 1 rfl) ?_
    refine lv_iload_n hx hb dX12_surestOdds_16 rfl (lv_at hl 0 rfl) ?_
    obtain ⟨o17, eo17⟩ : ∃ o, o = f_X12_refused o7 ((0 : Int32), m_t.2) := ⟨_, rfl⟩
    have h := nm_of h o17 eo17
    refine cl_i (wc := ([(a0, .inr (9, [.int 0, .int m_t.2.1, .int m_t.2.2, .ref a3, g9, g10, g11, g12, g13, g14, g15, g16, g17, g18, g19, .ref a4, g20, g21, g22, g23, g24, g25, g26, g27, g28, g29, g30, g31, g32, g33]))])) (wr := (bX11 a3 uq kq q_q ([(a4, .inl (cB35, 26, .inl m_v))]))) (va_runV (As := [.int o7]) (rest := []) ⟨hx, hb, hml, hown, hts⟩ (kfX12_refused l dC dI a0 o7 ((0 : Int32), m_t.2) (.ref a3) (g9) (g10) (g11) (g12) (g13) (g14) (g15) (g16) (g17) (g18) (g19) (.ref a4) (g20) (g21) (g22) (g23) (g24) (g25) (g26) (g27) (g28) (g29) (g30) (g31) (g32) (g33) H.size o17 eo17.symm) (cwV 1 hts gfX12_surestOdds_5 rfl rfl rfl (by decide +kernel) ⟨(Nat.le_of_ble_eq_true rfl), (Nat.le_of_ble_eq_true rfl)⟩) (PV (hP.sub (ws' := ([(a0, .inr (9, [.int 0, .int m_t.2.1, .int m_t.2.2, .ref a3, g9, g10, g11, g12, g13, g14, g15, g16, g17, g18, g19, .ref a4, g20, g21, g22, g23, g24, g25, g26, g27, g28, g29, g30, g31, g32, g33]))])) [0] rfl) (hK.sub (tys' := ([])) [] rfl) (hD.sub (ws' := ([(a0, .inr (9, [.int 0, .int m_t.2.1, .int m_t.2.2, .ref a3, g9, g10, g11, g12, g13, g14, g15, g16, g17, g18, g19, .ref a4, g20, g21, g22, g23, g24, g25, g26, g27, g28, g29, g30, g31, g32, g33]))])) [0] (by decide) rfl) hN 0 rfl rfl) rfl rfl hl.1 rfl (lv_room (Nat.le_of_ble_eq_true rfl)) dX12_surestOdds_17 ⟨(Nat.le_of_ble_eq_true rfl), (Nat.le_of_ble_eq_true rfl)⟩) hP hD hK hS hA [0] [1, 2, 3, 4, 5, 6, 7, 8, 9, 10, 11, 12, 13, 14, 15, 16] rfl rfl (by decide) (by decide) (fun r17 _ H locs hw hP hD _ hS => ?_)
    obtain rfl := hw
    have hP : va_P (dC, dI) vwCl (bX11 a3 uq kq q_q ([(a4, .inl (cB35, 26, .inl m_v)), (a0, .inr (9, [.int o17.1, .int o17.2.1, .int o17.2.2, .ref a3, g9, g10, g11, g12, g13, g14, g15, g16, g17, g18, g19, .ref a4, g20, g21, g22, g23, g24, g25, g26, g27, g28, g29, g30, g31, g32, g33]))])) H := hP
    have hD : va_D A (bX11 a3 uq kq q_q ([(a4, .inl (cB35, 26, .inl m_v)), (a0, .inr (9, [.int o17.1, .int o17.2.1, .int o17.2.2, .ref a3, g9, g10, g11, g12, g13, g14, g15, g16, g17, g18, g19, .ref a4, g20, g21, g22, g23, g24, g25, g26, g27, g28, g29, g30, g31, g32, g33]))])) := hD
    refine lv_i2l (v := (-1)) hx hb dX12_surestOdds_20 (by decide) ?_
    obtain rfl := Option.some.inj h
    have hP9 := hP.sub (ws' := ((a0, .inr (9, [.int o17.1, .int o17.2.1, .int o17.2.2, .ref a3, g9, g10, g11, g12, g13, g14, g15, g16, g17, g18, g19, .ref a4, g20, g21, g22, g23, g24, g25, g26, g27, g28, g29, g30, g31, g32, g33])) :: bX11 a3 uq kq q_q ([(a4, .inl (cB35, 26, .inl m_v))]))) [16, 0, 1, 2, 3, 4, 5, 6, 7, 8, 9, 10, 11, 12, 13, 14, 15] rfl
    have hD9 := hD.sub (ws' := ((a0, .inr (9, [.int o17.1, .int o17.2.1, .int o17.2.2, .ref a3, g9, g10, g11, g12, g13, g14, g15, g16, g17, g18, g19, .ref a4, g20, g21, g22, g23, g24, g25, g26, g27, g28, g29, g30, g31, g32, g33])) :: bX11 a3 uq kq q_q ([(a4, .inl (cB35, 26, .inl m_v))]))) [16, 0, 1, 2, 3, 4, 5, 6, 7, 8, 9, 10, 11, 12, 13, 14, 15] (by decide) rfl
    have hK9 := hK.sub (tys' := []) [] rfl
    rw [hQQ]
    exact W.lret (v := (-1 : Int64)) hx hb hr (fun t ht hW => ⟨⟨(-1 : Int64), (), rfl, rfl, by rw [ht]; exact hP9, va_K.moved hW.alike hK9, hD9⟩, hS.F ht⟩) hS.2.2 dX12_surestOdds_21
theorem dX12_best_0 : decode cX12_best 0 = .ok (.aload_n 0, 1) := by decide +kernel
theorem dX12_best_1 : decode cX12_best 1 = .ok (.iconst 0, 1) := by decide +kernel
theorem dX12_best_18 : decode cX12_best 18 = .ok (.bipush (-2), 2) := by decide +kernel
theorem dX12_best_2 : decode cX12_best 2 = .ok (.putfield 36, 3) := by decide +kernel
theorem dX12_best_20 : decode cX12_best 20 = .ok (.istore_n 1, 1) := by decide +kernel
theorem dX12_best_21 : decode cX12_best 21 = .ok (.lconst 0, 1) := by decide +kernel
theorem dX12_best_22 : decode cX12_best 22 = .ok (.lstore_n 2, 1) := by decide +kernel
theorem dX12_best_23 : decode cX12_best 23 = .ok (.iconst 0, 1) := by decide +kernel
theorem dX12_best_24 : decode cX12_best 24 = .ok (.istore 4, 2) := by decide +kernel
theorem dX12_best_26 : decode cX12_best 26 = .ok (.iload 4, 2) := by decide +kernel
theorem dX12_best_28 : decode cX12_best 28 = .ok (.aload_n 0, 1) := by decide +kernel
theorem dX12_best_29 : decode cX12_best 29 = .ok (.getfield 299, 3) := by decide +kernel
theorem dX12_best_32 : decode cX12_best 32 = .ok (.invokevirtual 374, 3) := by decide +kernel
theorem dX12_best_35 : decode cX12_best 35 = .ok (.if_icmp .ge 33, 3) := by decide +kernel
theorem dX12_best_38 : decode cX12_best 38 = .ok (.aload_n 0, 1) := by decide +kernel
theorem dX12_best_39 : decode cX12_best 39 = .ok (.iload 4, 2) := by decide +kernel
theorem dX12_best_41 : decode cX12_best 41 = .ok (.invokevirtual 371, 3) := by decide +kernel
theorem dX12_best_44 : decode cX12_best 44 = .ok (.lload_n 2, 1) := by decide +kernel
theorem dX12_best_45 : decode cX12_best 45 = .ok (.lcmp, 1) := by decide +kernel
theorem dX12_best_46 : decode cX12_best 46 = .ok (.ifCond .gt 6, 3) := by decide +kernel
theorem dX12_best_49 : decode cX12_best 49 = .ok (.goto 13, 3) := by decide +kernel
theorem dX12_best_5 : decode cX12_best 5 = .ok (.aload_n 0, 1) := by decide +kernel
theorem dX12_best_52 : decode cX12_best 52 = .ok (.aload_n 0, 1) := by decide +kernel
theorem dX12_best_53 : decode cX12_best 53 = .ok (.iload 4, 2) := by decide +kernel
theorem dX12_best_55 : decode cX12_best 55 = .ok (.invokevirtual 371, 3) := by decide +kernel
theorem dX12_best_58 : decode cX12_best 58 = .ok (.lstore_n 2, 1) := by decide +kernel
theorem dX12_best_59 : decode cX12_best 59 = .ok (.iload 4, 2) := by decide +kernel
theorem dX12_best_6 : decode cX12_best 6 = .ok (.getfield 299, 3) := by decide +kernel
theorem dX12_best_61 : decode cX12_best 61 = .ok (.istore_n 1, 1) := by decide +kernel
theorem dX12_best_62 : decode cX12_best 62 = .ok (.iinc 4 1, 3) := by decide +kernel
theorem dX12_best_65 : decode cX12_best 65 = .ok (.goto (-39), 3) := by decide +kernel
theorem dX12_best_68 : decode cX12_best 68 = .ok (.aload_n 0, 1) := by decide +kernel
theorem dX12_best_69 : decode cX12_best 69 = .ok (.iload_n 1, 1) := by decide +kernel
theorem dX12_best_70 : decode cX12_best 70 = .ok (.bipush (-2), 2) := by decide +kernel
theorem dX12_best_72 : decode cX12_best 72 = .ok (.if_icmp .ne 8, 3) := by decide +kernel
theorem dX12_best_75 : decode cX12_best 75 = .ok (.bipush (-2), 2) := by decide +kernel
theorem dX12_best_77 : decode cX12_best 77 = .ok (.goto 8, 3) := by decide +kernel
theorem dX12_best_80 : decode cX12_best 80 = .ok (.aload_n 0, 1) := by decide +kernel
theorem dX12_best_81 : decode cX12_best 81 = .ok (.iload_n 1, 1) := by decide +kernel
theorem dX12_best_82 : decode cX12_best 82 = .ok (.invokevirtual 383, 3) := by decide +kernel
theorem dX12_best_85 : decode cX12_best 85 = .ok (.invokevirtual 46, 3) := by decide +kernel
theorem dX12_best_88 : decode cX12_best 88 = .ok (.ireturn, 1) := by decide +kernel
theorem dX12_best_9 : decode cX12_best 9 = .ok (.ifnonnull 9, 3) := by decide +kernel
def vfX12_best : List Cond := List.cons (.code yX12_best cX12_best 5 (some .int)) (apW [.fieldLink RX12 36 "HookPierModel" "thrown" "I", .fieldLink RX12 299 "HookPierModel" "pier" "LHookPierModel$Pier;", .methodLink RX12 374 yX11_questions, .instanceMethod yX11_questions, .selects RX11 yX11_questions yX11_questions, .initialized RX11, .methodLink RX12 46 yX12_good, .instanceMethod yX12_good, .selects RX12 yX12_good yX12_good, .initialized RX12, .methodLink RX12 383 yX12_codeOf, .instanceMethod yX12_codeOf, .selects RX12 yX12_codeOf yX12_codeOf, .methodLink RX12 371 yX12_meanOf, .instanceMethod yX12_meanOf, .selects RX12 yX12_meanOf yX12_meanOf] (apW wsX120 (apW vfX11_questions (apW vfX12_good (apW vfX12_codeOf (vfX12_meanOf))))))
theorem ifX12_best_X12 : ∀ w ∈ wsX120, w ∈ vfX12_best := fun _ h => (List.mem_cons_of_mem _ (List.mem_append_right _ (List.mem_append_left _ h)))
theorem qfX12_best : Good vfX12_best := gd_cons (by decide +kernel) (gd_app (gd_dec (by decide +kernel) : Good [.fieldLink RX12 36 "HookPierModel" "thrown" "I", .fieldLink RX12 299 "HookPierModel" "pier" "LHookPierModel$Pier;", .methodLink RX12 374 yX11_questions, .instanceMethod yX11_questions, .selects RX11 yX11_questions yX11_questions, .initialized RX11, .methodLink RX12 46 yX12_good, .instanceMethod yX12_good, .selects RX12 yX12_good yX12_good, .initialized RX12, .methodLink RX12 383 yX12_codeOf, .instanceMethod yX12_codeOf, .selects RX12 yX12_codeOf yX12_codeOf, .methodLink RX12 371 yX12_meanOf, .instanceMethod yX12_meanOf, .selects RX12 yX12_meanOf yX12_meanOf]) (gd_app qsX12 (gd_app qfX11_questions (gd_app qfX12_good (gd_app qfX12_codeOf qfX12_meanOf)))))
theorem gfX12_best_0 : GoodIn vfX12_best (wsV RX12 374 RX11 yX11_questions vfX11_questions) := goodIn_app (goodIn_r [.methodLink RX12 374 yX11_questions, .instanceMethod yX11_questions, .selects RX11 yX11_questions yX11_questions, .initialized RX11] [3, 4, 5, 6] rfl (by decide +kernel)) (goodIn_m (fun _ h => (List.mem_cons_of_mem _ (List.mem_append_right _ (List.mem_append_right _ (List.mem_append_left _ h))))) qfX11_questions)
theorem gfX12_best_1 : GoodIn vfX12_best (wsV RX12 46 RX12 yX12_good vfX12_good) := goodIn_app (goodIn_r [.methodLink RX12 46 yX12_good, .instanceMethod yX12_good, .selects RX12 yX12_good yX12_good, .initialized RX12] [7, 8, 9, 10] rfl (by decide +kernel)) (goodIn_m (fun _ h => (List.mem_cons_of_mem _ (List.mem_append_right _ (List.mem_append_right _ (List.mem_append_right _ (List.mem_append_left _ h)))))) qfX12_good)
theorem gfX12_best_2 : GoodIn vfX12_best (wsV RX12 383 RX12 yX12_codeOf vfX12_codeOf) := goodIn_app (goodIn_r [.methodLink RX12 383 yX12_codeOf, .instanceMethod yX12_codeOf, .selects RX12 yX12_codeOf yX12_codeOf, .initialized RX12] [11, 12, 13, 10] rfl (by decide +kernel)) (goodIn_m (fun _ h => (List.mem_cons_of_mem _ (List.mem_append_right _ (List.mem_append_right _ (List.mem_append_right _ (List.mem_append_right _ (List.mem_append_left _ h))))))) qfX12_codeOf)
theorem gfX12_best_3 : GoodIn vfX12_best (wsV RX12 371 RX12 yX12_meanOf vfX12_meanOf) := goodIn_app (goodIn_r [.methodLink RX12 371 yX12_meanOf, .instanceMethod yX12_meanOf, .selects RX12 yX12_meanOf yX12_meanOf, .initialized RX12] [14, 15, 16, 10] rfl (by decide +kernel)) (goodIn_m (fun _ h => (List.mem_cons_of_mem _ (List.mem_append_right _ (List.mem_append_right _ (List.mem_append_right _ (List.mem_append_right _ (List.mem_append_right _ h))))))) qfX12_meanOf)
set_option maxHeartbeats 2000000 in
set_option maxRecDepth 100000 in
theorem kfX12_best (l : Launch) (dC : Nat → ClassId) (dI : Nat → Nat → Nat) (a0 : Nat) (a1 : Nat) (a2 : Nat) (uq : Nat → Nat) (kq : Nat → ClassId) (m_t : TX12_t) (m_v : TX12_v) (g7 : Value) (g8 : Value) (g9 : Value) (g10 : Value) (g11 : Value) (g12 : Value) (g13 : Value) (g14 : Value) (g15 : Value) (g16 : Value) (g17 : Value) (g18 : Value) (g19 : Value) (g20 : Value) (g21 : Value) (g22 : Value) (g23 : Value) (g24 : Value) (g25 : Value) (g26 : Value) (g27 : Value) (g28 : Value) (g29 : Value) (g30 : Value) (g31 : Value) (q_q : TX11_q) (cB33 : ClassId) (sz : Nat) (out : (Int32 × TX12_t)) (h : f_X12_best m_t m_v q_q = some out) : Met l yX12_best vfX12_best ({ frames := 6, cells := 0, slots := 0, locals := 142 }) (PC (dC, dI) [.ref a0] sz ((a0, .inr (9, [.int m_t.1, .int m_t.2.1, .int m_t.2.2, .ref a1, g7, g8, g9, g10, g11, g12, g13, g14, g15, g16, g17, .ref a2, g18, g19, g20, g21, g22, g23, g24, g25, g26, g27, g28, g29, g30, g31])) :: bX11 a1 uq kq q_q ([(a2, .inl (cB33, 26, .inl m_v))])) (tX11 kq ((cB33, .int) :: []))) (va_Qi (S := Unit) (fun (r : Int32) _ => r = out.1) (fun _ t => BC (dC, dI) (va_A ((a0, .inr (9, [.int m_t.1, .int m_t.2.1, .int m_t.2.2, .ref a1, g7, g8, g9, g10, g11, g12, g13, g14, g15, g16, g17, .ref a2, g18, g19, g20, g21, g22, g23, g24, g25, g26, g27, g28, g29, g30, g31])) :: bX11 a1 uq kq q_q ([(a2, .inl (cB33, 26, .inl m_v))])) sz) ((a0, .inr (9, [.int out.2.1, .int out.2.2.1, .int out.2.2.2, .ref a1, g7, g8, g9, g10, g11, g12, g13, g14, g15, g16, g17, .ref a2, g18, g19, g20, g21, g22, g23, g24, g25, g26, g27, g28, g29, g30, g31])) :: bX11 a1 uq kq q_q ([(a2, .inl (cB33, 26, .inl m_v))])) [] t) (va_A ((a0, .inr (9, [.int m_t.1, .int m_t.2.1, .int m_t.2.2, .ref a1, g7, g8, g9, g10, g11, g12, g13, g14, g15, g16, g17, .ref a2, g18, g19, g20, g21, g22, g23, g24, g25, g26, g27, g28, g29, g30, g31])) :: bX11 a1 uq kq q_q ([(a2, .inl (cB33, 26, .inl m_v))])) sz)) 0 0 (va_A ((a0, .inr (9, [.int m_t.1, .int m_t.2.1, .int m_t.2.2, .ref a1, g7, g8, g9, g10, g11, g12, g13, g14, g15, g16, g17, .ref a2, g18, g19, g20, g21, g22, g23, g24, g25, g26, g27, g28, g29, g30, g31])) :: bX11 a1 uq kq q_q ([(a2, .inl (cB33, 26, .inl m_v))])) sz) := by
  refine Met.ofW (cc := cX12_best) (maxL := 5) (ret := (some .int)) (by decide) rfl ?_
  intro p e s m args below meth c s₁ B0 hml hv
  obtain ⟨rfl, hsz, hP, hK, hD0, hN⟩ := hv
  have hx := B0.exec
  have hb := B0.bytes
  have hr := B0.returns
  have hts := atoms_spec (ws := vfX12_best) B0.pre
  have hown : s.vm.findClass RX12 = some m.cls := findClass_of_methodNamed B0.named
  have hlocks := B0.notSynchronized
  subst hsz
  have hD := hD0.self (sz := s.heap.size)
  generalize hAe : va_A ((a0, .inr (9, [.int m_t.1, .int m_t.2.1, .int m_t.2.2, .ref a1, g7, g8, g9, g10, g11, g12, g13, g14, g15, g16, g17, .ref a2, g18, g19, g20, g21, g22, g23, g24, g25, g26, g27, g28, g29, g30, g31])) :: bX11 a1 uq kq q_q ([(a2, .inl (cB33, 26, .inl m_v))])) s.heap.size = A at hD ⊢
  have hA : ∀ q : Nat, s.heap.size ≤ q → A q := fun q h => by rw [← hAe]; exact Or.inr h
  have hS : va_S A s.heap s.heap [] := va_S.rf
  have hP : va_P (dC, dI) vwCl ((a0, .inr (9, [.int m_t.1, .int m_t.2.1, .int m_t.2.2, .ref a1, g7, g8, g9, g10, g11, g12, g13, g14, g15, g16, g17, .ref a2, g18, g19, g20, g21, g22, g23, g24, g25, g26, g27, g28, g29, g30, g31])) :: bX11 a1 uq kq q_q ([(a2, .inl (cB33, 26, .inl m_v))])) s.heap := hP
  have hl := lv_entry ([.ref a0]) (n := 5) (Nat.le_of_ble_eq_true rfl)
  rw [lg_entry_eq]
  generalize (lg_sl ([.ref a0]) ++ List.replicate (5 - (lg_sl ([.ref a0])).length) Slot.unset).toArray = ls at hl ⊢
  have hl : lv_has ls 5 [(0, .ref a0)] := hl
  refine W_q (fun QQ hQQ => ?_)
  rw [f_X12_best] at h
  refine lv_aload_n hx hb dX12_best_0 rfl (lv_at hl 0 rfl) ?_
  refine lv_iconst (v := 0) hx hb dX12_best_1 (by decide) ?_
  refine va_put (D := (dC, dI)) (ci := 9) (v := .int 0) (ty := .int) (C := RX12) (T := TX12) (N := 30) hx hb hts ifX12_best_X12 tyX12 tyX12_ok nmX12 hown hK hP hD hS 0 rfl rfl 0 (by decide) (hts (.fieldLink RX12 36 "HookPierModel" "thrown" "I") (List.mem_of_getElem? (i := 1) rfl)) (fun _ h9 => h9) rfl (by decide +kernel) rfl rfl (Nat.le_of_ble_eq_true rfl) dX12_best_2 (fun H locs hP hD hS => ?_)
  have hP : va_P (dC, dI) vwCl ((a0, .inr (9, [.int 0, .int m_t.2.1, .int m_t.2.2, .ref a1, g7, g8, g9, g10, g11, g12, g13, g14, g15, g16, g17, .ref a2, g18, g19, g20, g21, g22, g23, g24, g25, g26, g27, g28, g29, g30, g31])) :: bX11 a1 uq kq q_q ([(a2, .inl (cB33, 26, .inl m_v))])) H := hP
  have hD : va_D A ((a0, .inr (9, [.int 0, .int m_t.2.1, .int m_t.2.2, .ref a1, g7, g8, g9, g10, g11, g12, g13, g14, g15, g16, g17, .ref a2, g18, g19, g20, g21, g22, g23, g24, g25, g26, g27, g28, g29, g30, g31])) :: bX11 a1 uq kq q_q ([(a2, .inl (cB33, 26, .inl m_v))])) := hD
  refine lv_aload_n hx hb dX12_best_5 rfl (lv_at hl 0 rfl) ?_
  refine va_get (D := (dC, dI)) (ci := 9) (v := .ref a1) (C := RX12) (T := TX12) (N := 30) hx hb hts ifX12_best_X12 hown hK hP 0 rfl rfl 3 (by decide) (hts (.fieldLink RX12 299 "HookPierModel" "pier" "LHookPierModel$Pier;") (List.mem_of_getElem? (i := 2) rfl)) (fun _ h9 => h9) rfl dX12_best_6 ?_
  refine lv_ifnonnull (tgt := 18) hx hb dX12_best_9 (by decide) ?_
  refine lv_bipush (v := (-2)) hx hb dX12_best_18 (by decide) ?_
  refine lv_istore_n (lv' := [(1, .int (-2)), (0, .ref a0)]) hx hb dX12_best_20 rfl hl (by decide) rfl (fun ls hl => ?_)
  refine lv_lconst (v := 0) hx hb dX12_best_21 (by decide) ?_
  refine lv_lstore_n (lv' := [(2, .long 0), (1, .int (-2)), (0, .ref a0)]) hx hb dX12_best_22 rfl hl (by decide) rfl (fun ls hl => ?_)
  refine lv_iconst (v := 0) hx hb dX12_best_23 (by decide) ?_
  refine lv_istore (lv' := [(4, .int 0), (2, .long 0), (1, .int (-2)), (0, .ref a0)]) hx hb dX12_best_24 hl (by decide) rfl (fun ls hl => ?_)
  have L26 : ∀ (n26 : Nat) (v26_l4 : Int32) (v26_l2 : Int64) (v26_l1 : Int32) (H : Heap) (locs : List Loc) (ls : Array Slot), f_X12_best_L26 m_t m_v q_q n26 v26_l4 v26_l2 v26_l1 = some out → va_P (dC, dI) vwCl ((a0, .inr (9, [.int 0, .int m_t.2.1, .int m_t.2.2, .ref a1, g7, g8, g9, g10, g11, g12, g13, g14, g15, g16, g17, .ref a2, g18, g19, g20, g21, g22, g23, g24, g25, g26, g27, g28, g29, g30, g31])) :: bX11 a1 uq kq q_q ([(a2, .inl (cB33, 26, .inl m_v))])) H → va_D A ((a0, .inr (9, [.int 0, .int m_t.2.1, .int m_t.2.2, .ref a1, g7, g8, g9, g10, g11, g12, g13, g14, g15, g16, g17, .ref a2, g18, g19, g20, g21, g22, g23, g24, g25, g26, g27, g28, g29, g30, g31])) :: bX11 a1 uq kq q_q ([(a2, .inl (cB33, 26, .inl m_v))])) → va_S A s.heap H locs → lv_has ls 5 [(4, .int v26_l4), (2, .long v26_l2), (1, .int v26_l1), (0, .ref a0)] → W p l e (headSpec vfX12_best { frames := 6, cells := 0, slots := 0, locals := 142 }).room s m ([.ref a0]).toArray below meth c H locs 0 0 QQ (F0 m 26 ls []) := by
    intro n26
    induction n26 with
    | zero =>
      intro v26_l4 v26_l2 v26_l1 H locs ls h  _ _ _ _
      rw [f_X12_best_L26] at h
      cases h
    | succ n26 ih26 =>
      intro v26_l4 v26_l2 v26_l1 H locs ls h  hP hD hS hl
      rw [f_X12_best_L26] at h
      refine lv_iload hx hb dX12_best_26 (lv_at hl 0 rfl) ?_
      refine lv_aload_n hx hb dX12_best_28 rfl (lv_at hl 3 rfl) ?_
      refine va_get (D := (dC, dI)) (ci := 9) (v := .ref a1) (C := RX12) (T := TX12) (N := 30) hx hb hts ifX12_best_X12 hown hK hP 0 rfl rfl 3 (by decide) (hts (.fieldLink RX12 299 "HookPierModel" "pier" "LHookPierModel$Pier;") (List.mem_of_getElem? (i := 2) rfl)) (fun _ h9 => h9) rfl dX12_best_29 ?_
      obtain ⟨o32, eo32⟩ : ∃ o, o = f_X11_questions q_q := ⟨_, rfl⟩
      have h := nm_of h o32 eo32
      refine cl_i (wc := (bX11 a1 uq kq q_q [])) (wr := ([(a0, .inr (9, [.int 0, .int m_t.2.1, .int m_t.2.2, .ref a1, g7, g8, g9, g10, g11, g12, g13, g14, g15, g16, g17, .ref a2, g18, g19, g20, g21, g22, g23, g24, g25, g26, g27, g28, g29, g30, g31])), (a2, .inl (cB33, 26, .inl m_v))])) (va_runV (As := []) (rest := [.int v26_l4]) ⟨hx, hb, hml, hown, hts⟩ (kfX11_questions l dC dI a1 uq kq q_q H.size o32 eo32.symm) (cwV 0 hts gfX12_best_0 rfl rfl rfl (by decide +kernel) ⟨(Nat.le_of_ble_eq_true rfl), (Nat.le_of_ble_eq_true rfl)⟩) (PV (hP.sub (ws' := (bX11 a1 uq kq q_q [])) [1, 2, 3, 4, 5, 6, 7, 8, 9, 10, 11, 12, 13, 14, 15] rfl) (hK.sub (tys' := (tX11 kq ([]))) [0, 1, 2, 3, 4, 5, 6, 7, 8, 9, 10, 11, 12, 13] rfl) (hD.sub (ws' := (bX11 a1 uq kq q_q [])) [1, 2, 3, 4, 5, 6, 7, 8, 9, 10, 11, 12, 13, 14, 15] (by decide) rfl) hN 0 rfl rfl) rfl rfl hl.1 rfl (lv_room (Nat.le_of_ble_eq_true rfl)) dX12_best_32 ⟨(Nat.le_of_ble_eq_true rfl), (Nat.le_of_ble_eq_true rfl)⟩) hP hD hK hS hA [1, 2, 3, 4, 5, 6, 7, 8, 9, 10, 11, 12, 13, 14, 15] [0, 16] rfl rfl (by decide) (by decide) (fun r32 _ H locs hw hP hD _ hS => ?_)
      obtain rfl := hw.symm
      have hP : va_P (dC, dI) vwCl ((a0, .inr (9, [.int 0, .int m_t.2.1, .int m_t.2.2, .ref a1, g7, g8, g9, g10, g11, g12, g13, g14, g15, g16, g17, .ref a2, g18, g19, g20, g21, g22, g23, g24, g25, g26, g27, g28, g29, g30, g31])) :: (a2, .inl (cB33, 26, .inl m_v)) :: bX11 a1 uq kq q_q []) H := hP
      have hD : va_D A ((a0, .inr (9, [.int 0, .int m_t.2.1, .int m_t.2.2, .ref a1, g7, g8, g9, g10, g11, g12, g13, g14, g15, g16, g17, .ref a2, g18, g19, g20, g21, g22, g23, g24, g25, g26, g27, g28, g29, g30, g31])) :: (a2, .inl (cB33, 26, .inl m_v)) :: bX11 a1 uq kq q_q []) := hD
      refine lv_icmp_ge (tgt := 68) hx hb dX12_best_35 (by decide) (fun c35 => ?_) (fun c35 => ?_)
      · have h := (if_pos c35).symm.trans h
        refine lv_aload_n hx hb dX12_best_68 rfl (lv_at hl 3 rfl) ?_
        refine lv_iload_n hx hb dX12_best_69 rfl (lv_at hl 2 rfl) ?_
        refine lv_bipush (v := (-2)) hx hb dX12_best_70 (by decide) ?_
        have J85 : ∀ (v85_t1 : Int32) (H : Heap) (locs : List Loc) (ls : Array Slot), f_X12_best_J85 m_t v85_t1 = some out → va_P (dC, dI) vwCl ((a2, .inl (cB33, 26, .inl m_v)) :: (a0, .inr (9, [.int 0, .int m_t.2.1, .int m_t.2.2, .ref a1, g7, g8, g9, g10, g11, g12, g13, g14, g15, g16, g17, .ref a2, g18, g19, g20, g21, g22, g23, g24, g25, g26, g27, g28, g29, g30, g31])) :: bX11 a1 uq kq q_q []) H → va_D A ((a2, .inl (cB33, 26, .inl m_v)) :: (a0, .inr (9, [.int 0, .int m_t.2.1, .int m_t.2.2, .ref a1, g7, g8, g9, g10, g11, g12, g13, g14, g15, g16, g17, .ref a2, g18, g19, g20, g21, g22, g23, g24, g25, g26, g27, g28, g29, g30, g31])) :: bX11 a1 uq kq q_q []) → va_S A s.heap H locs → lv_has ls 5 [] → W p l e (headSpec vfX12_best { frames := 6, cells := 0, slots := 0, locals := 142 }).room s m ([.ref a0]).toArray below meth c H locs 0 0 QQ (F0 m 85 ls [.int v85_t1, .ref a0]) := by
          intro v85_t1 H locs ls h  hP hD hS hl
          rw [f_X12_best_J85] at h
          obtain ⟨o85, eo85⟩ : ∃ o, o = f_X12_good v85_t1 ((0 : Int32), m_t.2) := ⟨_, rfl⟩
          have h := nm_of h o85 eo85
          refine cl_i (wc := ([(a0, .inr (9, [.int 0, .int m_t.2.1, .int m_t.2.2, .ref a1, g7, g8, g9, g10, g11, g12, g13, g14, g15, g16, g17, .ref a2, g18, g19, g20, g21, g22, g23, g24, g25, g26, g27, g28, g29, g30, g31]))])) (wr := ((a2, .inl (cB33, 26, .inl m_v)) :: bX11 a1 uq kq q_q [])) (va_runV (As := [.int v85_t1]) (rest := []) ⟨hx, hb, hml, hown, hts⟩ (kfX12_good l dC dI a0 v85_t1 ((0 : Int32), m_t.2) (.ref a1) (g7) (g8) (g9) (g10) (g11) (g12) (g13) (g14) (g15) (g16) (g17) (.ref a2) (g18) (g19) (g20) (g21) (g22) (g23) (g24) (g25) (g26) (g27) (g28) (g29) (g30) (g31) H.size o85 eo85.symm) (cwV 1 hts gfX12_best_1 rfl rfl rfl (by decide +kernel) ⟨(Nat.le_of_ble_eq_true rfl), (Nat.le_of_ble_eq_true rfl)⟩) (PV (hP.sub (ws' := ([(a0, .inr (9, [.int 0, .int m_t.2.1, .int m_t.2.2, .ref a1, g7, g8, g9, g10, g11, g12, g13, g14, g15, g16, g17, .ref a2, g18, g19, g20, g21, g22, g23, g24, g25, g26, g27, g28, g29, g30, g31]))])) [1] rfl) (hK.sub (tys' := ([])) [] rfl) (hD.sub (ws' := ([(a0, .inr (9, [.int 0, .int m_t.2.1, .int m_t.2.2, .ref a1, g7, g8, g9, g10, g11, g12, g13, g14, g15, g16, g17, .ref a2, g18, g19, g20, g21, g22, g23, g24, g25, g26, g27, g28, g29, g30, g31]))])) [1] (by decide) rfl) hN 0 rfl rfl) rfl rfl hl.1 rfl (lv_room (Nat.le_of_ble_eq_true rfl)) dX12_best_85 ⟨(Nat.le_of_ble_eq_true rfl), (Nat.le_of_ble_eq_true rfl)⟩) hP hD hK hS hA [1] [0, 2, 3, 4, 5, 6, 7, 8, 9, 10, 11, 12, 13, 14, 15, 16] rfl rfl (by decide) (by decide) (fun r85 _ H locs hw hP hD _ hS => ?_)
          obtain rfl := hw
          have hP : va_P (dC, dI) vwCl ((a2, .inl (cB33, 26, .inl m_v)) :: bX11 a1 uq kq q_q ([(a0, .inr (9, [.int o85.2.1, .int o85.2.2.1, .int o85.2.2.2, .ref a1, g7, g8, g9, g10, g11, g12, g13, g14, g15, g16, g17, .ref a2, g18, g19, g20, g21, g22, g23, g24, g25, g26, g27, g28, g29, g30, g31]))])) H := hP
          have hD : va_D A ((a2, .inl (cB33, 26, .inl m_v)) :: bX11 a1 uq kq q_q ([(a0, .inr (9, [.int o85.2.1, .int o85.2.2.1, .int o85.2.2.2, .ref a1, g7, g8, g9, g10, g11, g12, g13, g14, g15, g16, g17, .ref a2, g18, g19, g20, g21, g22, g23, g24, g25, g26, g27, g28, g29, g30, g31]))])) := hD
          obtain rfl := Option.some.inj h
          have hP9 := hP.sub (ws' := ((a0, .inr (9, [.int o85.2.1, .int o85.2.2.1, .int o85.2.2.2, .ref a1, g7, g8, g9, g10, g11, g12, g13, g14, g15, g16, g17, .ref a2, g18, g19, g20, g21, g22, g23, g24, g25, g26, g27, g28, g29, g30, g31])) :: bX11 a1 uq kq q_q ([(a2, .inl (cB33, 26, .inl m_v))]))) [16, 1, 2, 3, 4, 5, 6, 7, 8, 9, 10, 11, 12, 13, 14, 15, 0] rfl
          have hD9 := hD.sub (ws' := ((a0, .inr (9, [.int o85.2.1, .int o85.2.2.1, .int o85.2.2.2, .ref a1, g7, g8, g9, g10, g11, g12, g13, g14, g15, g16, g17, .ref a2, g18, g19, g20, g21, g22, g23, g24, g25, g26, g27, g28, g29, g30, g31])) :: bX11 a1 uq kq q_q ([(a2, .inl (cB33, 26, .inl m_v))]))) [16, 1, 2, 3, 4, 5, 6, 7, 8, 9, 10, 11, 12, 13, 14, 15, 0] (by decide) rfl
          have hK9 := hK.sub (tys' := []) [] rfl
          rw [hQQ]
          exact W.iret (v := o85.1) hx hb hr (fun t ht hW => ⟨⟨o85.1, (), rfl, rfl, by rw [ht]; exact hP9, va_K.moved hW.alike hK9, hD9⟩, hS.F ht⟩) hS.2.2 dX12_best_88
        refine lv_icmp_ne (tgt := 80) hx hb dX12_best_72 (by decide) (fun c72 => ?_) (fun c72 => ?_)
        · have h := (if_neg c72).symm.trans h
          refine lv_aload_n hx hb dX12_best_80 rfl (lv_at hl 3 rfl) ?_
          refine lv_iload_n hx hb dX12_best_81 rfl (lv_at hl 2 rfl) ?_
          obtain ⟨o82, eo82, h⟩ := bd_of h
          refine cl_i (wc := ((a0, .inr (9, [.int 0, .int m_t.2.1, .int m_t.2.2, .ref a1, g7, g8, g9, g10, g11, g12, g13, g14, g15, g16, g17, .ref a2, g18, g19, g20, g21, g22, g23, g24, g25, g26, g27, g28, g29, g30, g31])) :: bX11 a1 uq kq q_q [])) (wr := ([(a2, .inl (cB33, 26, .inl m_v))])) (va_runV (As := [.int v26_l1]) (rest := [.ref a0]) ⟨hx, hb, hml, hown, hts⟩ (kfX12_codeOf l dC dI a0 v26_l1 a1 uq kq (.int 0) (.int m_t.2.1) (.int m_t.2.2) (g7) (g8) (g9) (g10) (g11) (g12) (g13) (g14) (g15) (g16) (g17) (.ref a2) (g18) (g19) (g20) (g21) (g22) (g23) (g24) (g25) (g26) (g27) (g28) (g29) (g30) (g31) q_q H.size o82 eo82) (cwV 1 hts gfX12_best_2 rfl rfl rfl (by decide +kernel) ⟨(Nat.le_of_ble_eq_true rfl), (Nat.le_of_ble_eq_true rfl)⟩) (PV (hP.sub (ws' := ((a0, .inr (9, [.int 0, .int m_t.2.1, .int m_t.2.2, .ref a1, g7, g8, g9, g10, g11, g12, g13, g14, g15, g16, g17, .ref a2, g18, g19, g20, g21, g22, g23, g24, g25, g26, g27, g28, g29, g30, g31])) :: bX11 a1 uq kq q_q [])) [0, 2, 3, 4, 5, 6, 7, 8, 9, 10, 11, 12, 13, 14, 15, 16] rfl) (hK.sub (tys' := (tX11 kq ([]))) [0, 1, 2, 3, 4, 5, 6, 7, 8, 9, 10, 11, 12, 13] rfl) (hD.sub (ws' := ((a0, .inr (9, [.int 0, .int m_t.2.1, .int m_t.2.2, .ref a1, g7, g8, g9, g10, g11, g12, g13, g14, g15, g16, g17, .ref a2, g18, g19, g20, g21, g22, g23, g24, g25, g26, g27, g28, g29, g30, g31])) :: bX11 a1 uq kq q_q [])) [0, 2, 3, 4, 5, 6, 7, 8, 9, 10, 11, 12, 13, 14, 15, 16] (by decide) rfl) hN 0 rfl rfl) rfl rfl hl.1 rfl (lv_room (Nat.le_of_ble_eq_true rfl)) dX12_best_82 ⟨(Nat.le_of_ble_eq_true rfl), (Nat.le_of_ble_eq_true rfl)⟩) hP hD hK hS hA [0, 2, 3, 4, 5, 6, 7, 8, 9, 10, 11, 12, 13, 14, 15, 16] [1] rfl rfl (by decide) (by decide) (fun r82 _ H locs hw hP hD _ hS => ?_)
          obtain rfl := hw.symm
          have hP : va_P (dC, dI) vwCl ((a2, .inl (cB33, 26, .inl m_v)) :: (a0, .inr (9, [.int 0, .int m_t.2.1, .int m_t.2.2, .ref a1, g7, g8, g9, g10, g11, g12, g13, g14, g15, g16, g17, .ref a2, g18, g19, g20, g21, g22, g23, g24, g25, g26, g27, g28, g29, g30, g31])) :: bX11 a1 uq kq q_q []) H := hP
          have hD : va_D A ((a2, .inl (cB33, 26, .inl m_v)) :: (a0, .inr (9, [.int 0, .int m_t.2.1, .int m_t.2.2, .ref a1, g7, g8, g9, g10, g11, g12, g13, g14, g15, g16, g17, .ref a2, g18, g19, g20, g21, g22, g23, g24, g25, g26, g27, g28, g29, g30, g31])) :: bX11 a1 uq kq q_q []) := hD
          exact J85 o82 H _ ls h  hP hD hS (lv_sub hl [] rfl)
        · have h := (if_pos c72).symm.trans h
          refine lv_bipush (v := (-2)) hx hb dX12_best_75 (by decide) ?_
          refine lv_goto (tgt := 85) hx hb dX12_best_77 (by decide) ?_
          exact J85 (-2 : Int32) H _ ls h  (hP.sub (ws' := ((a2, .inl (cB33, 26, .inl m_v)) :: (a0, .inr (9, [.int 0, .int m_t.2.1, .int m_t.2.2, .ref a1, g7, g8, g9, g10, g11, g12, g13, g14, g15, g16, g17, .ref a2, g18, g19, g20, g21, g22, g23, g24, g25, g26, g27, g28, g29, g30, g31])) :: bX11 a1 uq kq q_q [])) [1, 0, 2, 3, 4, 5, 6, 7, 8, 9, 10, 11, 12, 13, 14, 15, 16] rfl) (hD.sub (ws' := ((a2, .inl (cB33, 26, .inl m_v)) :: (a0, .inr (9, [.int 0, .int m_t.2.1, .int m_t.2.2, .ref a1, g7, g8, g9, g10, g11, g12, g13, g14, g15, g16, g17, .ref a2, g18, g19, g20, g21, g22, g23, g24, g25, g26, g27, g28, g29, g30, g31])) :: bX11 a1 uq kq q_q [])) [1, 0, 2, 3, 4, 5, 6, 7, 8, 9, 10, 11, 12, 13, 14, 15, 16] (by decide) rfl) hS (lv_sub hl [] rfl)
      · have h := (if_neg c35).symm.trans h
        refine lv_aload_n hx hb dX12_best_38 rfl (lv_at hl 3 rfl) ?_
        refine lv_iload hx hb dX12_best_39 (lv_at hl 0 rfl) ?_
        obtain ⟨o41, eo41, h⟩ := bd_of h
        refine cl_l (wc := ((a0, .inr (9, [.int 0, .int m_t.2.1, .int m_t.2.2, .ref a1, g7, g8, g9, g10, g11, g12, g13, g14, g15, g16, g17, .ref a2, g18, g19, g20, g21, g22, g23, g24, g25, g26, g27, g28, g29, g30, g31])) :: bX11 a1 uq kq q_q ([(a2, .inl (cB33, 26, .inl m_v))]))) (wr := []) (va_runV (As := [.int v26_l4]) (rest := []) ⟨hx, hb, hml, hown, hts⟩ (kfX12_meanOf l dC dI a0 v26_l4 a1 a2 uq kq m_v (.int 0) (.int m_t.2.1) (.int m_t.2.2) (g7) (g8) (g9) (g10) (g11) (g12) (g13) (g14) (g15) (g16) (g17) (g18) (g19) (g20) (g21) (g22) (g23) (g24) (g25) (g26) (g27) (g28) (g29) (g30) (g31) q_q cB33 H.size o41 eo41) (cwV 1 hts gfX12_best_3 rfl rfl rfl (by decide +kernel) ⟨(Nat.le_of_ble_eq_true rfl), (Nat.le_of_ble_eq_true rfl)⟩) (PV (hP.sub (ws' := ((a0, .inr (9, [.int 0, .int m_t.2.1, .int m_t.2.2, .ref a1, g7, g8, g9, g10, g11, g12, g13, g14, g15, g16, g17, .ref a2, g18, g19, g20, g21, g22, g23, g24, g25, g26, g27, g28, g29, g30, g31])) :: bX11 a1 uq kq q_q ([(a2, .inl (cB33, 26, .inl m_v))]))) [0, 2, 3, 4, 5, 6, 7, 8, 9, 10, 11, 12, 13, 14, 15, 16, 1] rfl) (hK.sub (tys' := (tX11 kq ((cB33, .int) :: []))) [0, 1, 2, 3, 4, 5, 6, 7, 8, 9, 10, 11, 12, 13, 14] rfl) (hD.sub (ws' := ((a0, .inr (9, [.int 0, .int m_t.2.1, .int m_t.2.2, .ref a1, g7, g8, g9, g10, g11, g12, g13, g14, g15, g16, g17, .ref a2, g18, g19, g20, g21, g22, g23, g24, g25, g26, g27, g28, g29, g30, g31])) :: bX11 a1 uq kq q_q ([(a2, .inl (cB33, 26, .inl m_v))]))) [0, 2, 3, 4, 5, 6, 7, 8, 9, 10, 11, 12, 13, 14, 15, 16, 1] (by decide) rfl) hN 0 rfl rfl) rfl rfl hl.1 rfl (lv_room (Nat.le_of_ble_eq_true rfl)) dX12_best_41 ⟨(Nat.le_of_ble_eq_true rfl), (Nat.le_of_ble_eq_true rfl)⟩) hP hD hK hS hA [0, 2, 3, 4, 5, 6, 7, 8, 9, 10, 11, 12, 13, 14, 15, 16, 1] [] rfl rfl (by decide) (by decide) (fun r41 _ H locs hw hP hD _ hS => ?_)
        obtain rfl := hw.symm
        have hP : va_P (dC, dI) vwCl ((a0, .inr (9, [.int 0, .int m_t.2.1, .int m_t.2.2, .ref a1, g7, g8, g9, g10, g11, g12, g13, g14, g15, g16, g17, .ref a2, g18, g19, g20, g21, g22, g23, g24, g25, g26, g27, g28, g29, g30, g31])) :: bX11 a1 uq kq q_q ([(a2, .inl (cB33, 26, .inl m_v))])) H := hP
        have hD : va_D A ((a0, .inr (9, [.int 0, .int m_t.2.1, .int m_t.2.2, .ref a1, g7, g8, g9, g10, g11, g12, g13, g14, g15, g16, g17, .ref a2, g18, g19, g20, g21, g22, g23, g24, g25, g26, g27, g28, g29, g30, g31])) :: bX11 a1 uq kq q_q ([(a2, .inl (cB33, 26, .inl m_v))])) := hD
        refine lv_lload_n hx hb dX12_best_44 rfl (lv_at hl 1 rfl) ?_
        refine W.lcmp hx hb dX12_best_45 ?_
        have J62 : ∀ (v62_l1 : Int32) (v62_l2 : Int64) (H : Heap) (locs : List Loc) (ls : Array Slot), f_X12_best_J62 (f_X12_best_L26 m_t m_v q_q n26) v26_l4 v62_l1 v62_l2 = some out → va_P (dC, dI) vwCl ((a0, .inr (9, [.int 0, .int m_t.2.1, .int m_t.2.2, .ref a1, g7, g8, g9, g10, g11, g12, g13, g14, g15, g16, g17, .ref a2, g18, g19, g20, g21, g22, g23, g24, g25, g26, g27, g28, g29, g30, g31])) :: bX11 a1 uq kq q_q ([(a2, .inl (cB33, 26, .inl m_v))])) H → va_D A ((a0, .inr (9, [.int 0, .int m_t.2.1, .int m_t.2.2, .ref a1, g7, g8, g9, g10, g11, g12, g13, g14, g15, g16, g17, .ref a2, g18, g19, g20, g21, g22, g23, g24, g25, g26, g27, g28, g29, g30, g31])) :: bX11 a1 uq kq q_q ([(a2, .inl (cB33, 26, .inl m_v))])) → va_S A s.heap H locs → lv_has ls 5 [(1, .int v62_l1), (2, .long v62_l2), (4, .int v26_l4), (0, .ref a0)] → W p l e (headSpec vfX12_best { frames := 6, cells := 0, slots := 0, locals := 142 }).room s m ([.ref a0]).toArray below meth c H locs 0 0 QQ (F0 m 62 ls []) := by
          intro v62_l1 v62_l2 H locs ls h  hP hD hS hl
          rw [f_X12_best_J62] at h
          refine lv_iinc (v := (v26_l4 + (1 : Int32))) (lv' := [(4, .int (v26_l4 + (1 : Int32))), (1, .int v62_l1), (2, .long v62_l2), (0, .ref a0)]) hx hb dX12_best_62 hl (k := 2) rfl rfl (by decide) rfl (fun ls hl => ?_)
          refine lv_goto (tgt := 26) hx hb dX12_best_65 (by decide) ?_
          exact ih26 (v26_l4 + (1 : Int32)) v62_l2 v62_l1 H _ ls h  hP hD hS (lv_sub hl [0, 2, 1, 3] rfl)
        refine lv_if_gt (tgt := 52) hx hb dX12_best_46 (by decide) (fun c46 => ?_) (fun c46 => ?_)
        · have h := (if_pos c46).symm.trans h
          refine lv_aload_n hx hb dX12_best_52 rfl (lv_at hl 3 rfl) ?_
          refine lv_iload hx hb dX12_best_53 (lv_at hl 0 rfl) ?_
          obtain ⟨o55, eo55, h⟩ := bd_of h
          refine cl_l (wc := ((a0, .inr (9, [.int 0, .int m_t.2.1, .int m_t.2.2, .ref a1, g7, g8, g9, g10, g11, g12, g13, g14, g15, g16, g17, .ref a2, g18, g19, g20, g21, g22, g23, g24, g25, g26, g27, g28, g29, g30, g31])) :: bX11 a1 uq kq q_q ([(a2, .inl (cB33, 26, .inl m_v))]))) (wr := []) (va_runV (As := [.int v26_l4]) (rest := []) ⟨hx, hb, hml, hown, hts⟩ (kfX12_meanOf l dC dI a0 v26_l4 a1 a2 uq kq m_v (.int 0) (.int m_t.2.1) (.int m_t.2.2) (g7) (g8) (g9) (g10) (g11) (g12) (g13) (g14) (g15) (g16) (g17) (g18) (g19) (g20) (g21) (g22) (g23) (g24) (g25) (g26) (g27) (g28) (g29) (g30) (g31) q_q cB33 H.size o55 eo55) (cwV 1 hts gfX12_best_3 rfl rfl rfl (by decide +kernel) ⟨(Nat.le_of_ble_eq_true rfl), (Nat.le_of_ble_eq_true rfl)⟩) (PV (hP.sub (ws' := ((a0, .inr (9, [.int 0, .int m_t.2.1, .int m_t.2.2, .ref a1, g7, g8, g9, g10, g11, g12, g13, g14, g15, g16, g17, .ref a2, g18, g19, g20, g21, g22, g23, g24, g25, g26, g27, g28, g29, g30, g31])) :: bX11 a1 uq kq q_q ([(a2, .inl (cB33, 26, .inl m_v))]))) [0, 1, 2, 3, 4, 5, 6, 7, 8, 9, 10, 11, 12, 13, 14, 15, 16] rfl) (hK.sub (tys' := (tX11 kq ((cB33, .int) :: []))) [0, 1, 2, 3, 4, 5, 6, 7, 8, 9, 10, 11, 12, 13, 14] rfl) (hD.sub (ws' := ((a0, .inr (9, [.int 0, .int m_t.2.1, .int m_t.2.2, .ref a1, g7, g8, g9, g10, g11, g12, g13, g14, g15, g16, g17, .ref a2, g18, g19, g20, g21, g22, g23, g24, g25, g26, g27, g28, g29, g30, g31])) :: bX11 a1 uq kq q_q ([(a2, .inl (cB33, 26, .inl m_v))]))) [0, 1, 2, 3, 4, 5, 6, 7, 8, 9, 10, 11, 12, 13, 14, 15, 16] (by decide) rfl) hN 0 rfl rfl) rfl rfl hl.1 rfl (lv_room (Nat.le_of_ble_eq_true rfl)) dX12_best_55 ⟨(Nat.le_of_ble_eq_true rfl), (Nat.le_of_ble_eq_true rfl)⟩) hP hD hK hS hA [0, 1, 2, 3, 4, 5, 6, 7, 8, 9, 10, 11, 12, 13, 14, 15, 16] [] rfl rfl (by decide) (by decide) (fun r55 _ H locs hw hP hD _ hS => ?_)
          obtain rfl := hw.symm
          have hP : va_P (dC, dI) vwCl ((a0, .inr (9, [.int 0, .int m_t.2.1, .int m_t.2.2, .ref a1, g7, g8, g9, g10, g11, g12, g13, g14, g15, g16, g17, .ref a2, g18, g19, g20, g21, g22, g23, g24, g25, g26, g27, g28, g29, g30, g31])) :: bX11 a1 uq kq q_q ([(a2, .inl (cB33, 26, .inl m_v))])) H := hP
          have hD : va_D A ((a0, .inr (9, [.int 0, .int m_t.2.1, .int m_t.2.2, .ref a1, g7, g8, g9, g10, g11, g12, g13, g14, g15, g16, g17, .ref a2, g18, g19, g20, g21, g22, g23, g24, g25, g26, g27, g28, g29, g30, g31])) :: bX11 a1 uq kq q_q ([(a2, .inl (cB33, 26, .inl m_v))])) := hD
          refine lv_lstore_n (lv' := [(2, .long o55), (4, .int v26_l4), (1, .int v26_l1), (0, .ref a0)]) hx hb dX12_best_58 rfl hl (by decide) rfl (fun ls hl => ?_)
          refine lv_iload hx hb dX12_best_59 (lv_at hl 1 rfl) ?_
          refine lv_istore_n (lv' := [(1, .int v26_l4), (2, .long o55), (4, .int v26_l4), (0, .ref a0)]) hx hb dX12_best_61 rfl hl (by decide) rfl (fun ls hl => ?_)
          exact J62 v26_l4 o55 H _ ls h  hP hD hS (lv_sub hl [0, 1, 2, 3] rfl)
        · have h := (if_neg c46).symm.trans h
          refine lv_goto (tgt := 62) hx hb dX12_best_49 (by decide) ?_
          exact J62 v26_l1 v26_l2 H _ ls h  hP hD hS (lv_sub hl [2, 1, 0, 3] rfl)
  exact L26 FU (0 : Int32) (0 : Int64) (-2 : Int32) H _ ls h  hP hD hS (lv_sub hl [0, 1, 2, 3] rfl)
theorem dX12_bestBait_0 : decode cX12_bestBait 0 = .ok (.aload_n 0, 1) := by decide +kernel
theorem dX12_bestBait_1 : decode cX12_bestBait 1 = .ok (.iconst 0, 1) := by decide +kernel
theorem dX12_bestBait_101 : decode cX12_bestBait 101 = .ok (.goto 8, 3) := by decide +kernel
theorem dX12_bestBait_104 : decode cX12_bestBait 104 = .ok (.iload 4, 2) := by decide +kernel
theorem dX12_bestBait_106 : decode cX12_bestBait 106 = .ok (.istore_n 2, 1) := by decide +kernel
theorem dX12_bestBait_107 : decode cX12_bestBait 107 = .ok (.iload_n 3, 1) := by decide +kernel
theorem dX12_bestBait_108 : decode cX12_bestBait 108 = .ok (.istore_n 1, 1) := by decide +kernel
theorem dX12_bestBait_109 : decode cX12_bestBait 109 = .ok (.iinc 3 1, 3) := by decide +kernel
theorem dX12_bestBait_112 : decode cX12_bestBait 112 = .ok (.goto (-88), 3) := by decide +kernel
theorem dX12_bestBait_115 : decode cX12_bestBait 115 = .ok (.aload_n 0, 1) := by decide +kernel
theorem dX12_bestBait_116 : decode cX12_bestBait 116 = .ok (.iload_n 1, 1) := by decide +kernel
theorem dX12_bestBait_117 : decode cX12_bestBait 117 = .ok (.invokevirtual 46, 3) := by decide +kernel
theorem dX12_bestBait_120 : decode cX12_bestBait 120 = .ok (.ireturn, 1) := by decide +kernel
theorem dX12_bestBait_18 : decode cX12_bestBait 18 = .ok (.iconst 0, 1) := by decide +kernel
theorem dX12_bestBait_19 : decode cX12_bestBait 19 = .ok (.istore_n 1, 1) := by decide +kernel
theorem dX12_bestBait_2 : decode cX12_bestBait 2 = .ok (.putfield 36, 3) := by decide +kernel
theorem dX12_bestBait_20 : decode cX12_bestBait 20 = .ok (.iconst (-1), 1) := by decide +kernel
theorem dX12_bestBait_21 : decode cX12_bestBait 21 = .ok (.istore_n 2, 1) := by decide +kernel
theorem dX12_bestBait_22 : decode cX12_bestBait 22 = .ok (.iconst 0, 1) := by decide +kernel
theorem dX12_bestBait_23 : decode cX12_bestBait 23 = .ok (.istore_n 3, 1) := by decide +kernel
theorem dX12_bestBait_24 : decode cX12_bestBait 24 = .ok (.iload_n 3, 1) := by decide +kernel
theorem dX12_bestBait_25 : decode cX12_bestBait 25 = .ok (.aload_n 0, 1) := by decide +kernel
theorem dX12_bestBait_26 : decode cX12_bestBait 26 = .ok (.getfield 299, 3) := by decide +kernel
theorem dX12_bestBait_29 : decode cX12_bestBait 29 = .ok (.getfield 175, 3) := by decide +kernel
theorem dX12_bestBait_32 : decode cX12_bestBait 32 = .ok (.if_icmp .ge 83, 3) := by decide +kernel
theorem dX12_bestBait_35 : decode cX12_bestBait 35 = .ok (.iconst 0, 1) := by decide +kernel
theorem dX12_bestBait_36 : decode cX12_bestBait 36 = .ok (.istore 4, 2) := by decide +kernel
theorem dX12_bestBait_38 : decode cX12_bestBait 38 = .ok (.iconst 0, 1) := by decide +kernel
theorem dX12_bestBait_39 : decode cX12_bestBait 39 = .ok (.istore 5, 2) := by decide +kernel
theorem dX12_bestBait_41 : decode cX12_bestBait 41 = .ok (.iload 5, 2) := by decide +kernel
theorem dX12_bestBait_43 : decode cX12_bestBait 43 = .ok (.aload_n 0, 1) := by decide +kernel
theorem dX12_bestBait_44 : decode cX12_bestBait 44 = .ok (.getfield 299, 3) := by decide +kernel
theorem dX12_bestBait_47 : decode cX12_bestBait 47 = .ok (.getfield 231, 3) := by decide +kernel
theorem dX12_bestBait_5 : decode cX12_bestBait 5 = .ok (.aload_n 0, 1) := by decide +kernel
theorem dX12_bestBait_50 : decode cX12_bestBait 50 = .ok (.if_icmp .ge 45, 3) := by decide +kernel
theorem dX12_bestBait_53 : decode cX12_bestBait 53 = .ok (.iload 4, 2) := by decide +kernel
theorem dX12_bestBait_55 : decode cX12_bestBait 55 = .ok (.aload_n 0, 1) := by decide +kernel
theorem dX12_bestBait_56 : decode cX12_bestBait 56 = .ok (.getfield 17, 3) := by decide +kernel
theorem dX12_bestBait_59 : decode cX12_bestBait 59 = .ok (.iconst 0, 1) := by decide +kernel
theorem dX12_bestBait_6 : decode cX12_bestBait 6 = .ok (.getfield 299, 3) := by decide +kernel
theorem dX12_bestBait_60 : decode cX12_bestBait 60 = .ok (.iload 5, 2) := by decide +kernel
theorem dX12_bestBait_62 : decode cX12_bestBait 62 = .ok (.iadd, 1) := by decide +kernel
theorem dX12_bestBait_63 : decode cX12_bestBait 63 = .ok (.iaload, 1) := by decide +kernel
theorem dX12_bestBait_64 : decode cX12_bestBait 64 = .ok (.ifCond .ne 21, 3) := by decide +kernel
theorem dX12_bestBait_67 : decode cX12_bestBait 67 = .ok (.aload_n 0, 1) := by decide +kernel
theorem dX12_bestBait_68 : decode cX12_bestBait 68 = .ok (.getfield 299, 3) := by decide +kernel
theorem dX12_bestBait_71 : decode cX12_bestBait 71 = .ok (.getfield 265, 3) := by decide +kernel
theorem dX12_bestBait_74 : decode cX12_bestBait 74 = .ok (.iload 5, 2) := by decide +kernel
theorem dX12_bestBait_76 : decode cX12_bestBait 76 = .ok (.iaload, 1) := by decide +kernel
theorem dX12_bestBait_77 : decode cX12_bestBait 77 = .ok (.iload_n 3, 1) := by decide +kernel
theorem dX12_bestBait_78 : decode cX12_bestBait 78 = .ok (.if_icmp .ne 7, 3) := by decide +kernel
theorem dX12_bestBait_81 : decode cX12_bestBait 81 = .ok (.iconst 1, 1) := by decide +kernel
theorem dX12_bestBait_82 : decode cX12_bestBait 82 = .ok (.goto 4, 3) := by decide +kernel
theorem dX12_bestBait_85 : decode cX12_bestBait 85 = .ok (.iconst 0, 1) := by decide +kernel
theorem dX12_bestBait_86 : decode cX12_bestBait 86 = .ok (.iadd, 1) := by decide +kernel
theorem dX12_bestBait_87 : decode cX12_bestBait 87 = .ok (.istore 4, 2) := by decide +kernel
theorem dX12_bestBait_89 : decode cX12_bestBait 89 = .ok (.iinc 5 1, 3) := by decide +kernel
theorem dX12_bestBait_9 : decode cX12_bestBait 9 = .ok (.ifnonnull 9, 3) := by decide +kernel
theorem dX12_bestBait_92 : decode cX12_bestBait 92 = .ok (.goto (-51), 3) := by decide +kernel
theorem dX12_bestBait_95 : decode cX12_bestBait 95 = .ok (.iload 4, 2) := by decide +kernel
theorem dX12_bestBait_97 : decode cX12_bestBait 97 = .ok (.iload_n 2, 1) := by decide +kernel
theorem dX12_bestBait_98 : decode cX12_bestBait 98 = .ok (.if_icmp .gt 6, 3) := by decide +kernel
def vfX12_bestBait : List Cond := List.cons (.code yX12_bestBait cX12_bestBait 6 (some .int)) (apW [.fieldLink RX12 36 "HookPierModel" "thrown" "I", .fieldLink RX12 299 "HookPierModel" "pier" "LHookPierModel$Pier;", .methodLink RX12 46 yX12_good, .instanceMethod yX12_good, .selects RX12 yX12_good yX12_good, .initialized RX12, .fieldLink RX12 17 "HookPierModel" "v" "[I"] (apW wsX120 (apW wsX110 (vfX12_good))))
theorem ifX12_bestBait_X12 : ∀ w ∈ wsX120, w ∈ vfX12_bestBait := fun _ h => (List.mem_cons_of_mem _ (List.mem_append_right _ (List.mem_append_left _ h)))
theorem ifX12_bestBait_X11 : ∀ w ∈ wsX110, w ∈ vfX12_bestBait := fun _ h => (List.mem_cons_of_mem _ (List.mem_append_right _ (List.mem_append_right _ (List.mem_append_left _ h))))
theorem qfX12_bestBait : Good vfX12_bestBait := gd_cons (by decide +kernel) (gd_app (gd_dec (by decide +kernel) : Good [.fieldLink RX12 36 "HookPierModel" "thrown" "I", .fieldLink RX12 299 "HookPierModel" "pier" "LHookPierModel$Pier;", .methodLink RX12 46 yX12_good, .instanceMethod yX12_good, .selects RX12 yX12_good yX12_good, .initialized RX12, .fieldLink RX12 17 "HookPierModel" "v" "[I"]) (gd_app qsX12 (gd_app qsX11 qfX12_good)))
theorem gfX12_bestBait_0 : GoodIn vfX12_bestBait (wsV RX12 46 RX12 yX12_good vfX12_good) := goodIn_app (goodIn_r [.methodLink RX12 46 yX12_good, .instanceMethod yX12_good, .selects RX12 yX12_good yX12_good, .initialized RX12] [3, 4, 5, 6] rfl (by decide +kernel)) (goodIn_m (fun _ h => (List.mem_cons_of_mem _ (List.mem_append_right _ (List.mem_append_right _ (List.mem_append_right _ h))))) qfX12_good)
set_option maxHeartbeats 2000000 in
set_option maxRecDepth 100000 in
theorem kfX12_bestBait (l : Launch) (dC : Nat → ClassId) (dI : Nat → Nat → Nat) (a0 : Nat) (a1 : Nat) (a2 : Nat) (uq : Nat → Nat) (kq : Nat → ClassId) (m_t : TX12_t) (m_v : TX12_v) (g7 : Value) (g8 : Value) (g9 : Value) (g10 : Value) (g11 : Value) (g12 : Value) (g13 : Value) (g14 : Value) (g15 : Value) (g16 : Value) (g17 : Value) (g18 : Value) (g19 : Value) (g20 : Value) (g21 : Value) (g22 : Value) (g23 : Value) (g24 : Value) (g25 : Value) (g26 : Value) (g27 : Value) (g28 : Value) (g29 : Value) (g30 : Value) (g31 : Value) (q_q : TX11_q) (cB33 : ClassId) (sz : Nat) (out : (Int32 × TX12_t)) (h : f_X12_bestBait m_t m_v q_q = some out) : Met l yX12_bestBait vfX12_bestBait ({ frames := 1, cells := 0, slots := 0, locals := 21 }) (PC (dC, dI) [.ref a0] sz ((a0, .inr (9, [.int m_t.1, .int m_t.2.1, .int m_t.2.2, .ref a1, g7, g8, g9, g10, g11, g12, g13, g14, g15, g16, g17, .ref a2, g18, g19, g20, g21, g22, g23, g24, g25, g26, g27, g28, g29, g30, g31])) :: bX11 a1 uq kq q_q ([(a2, .inl (cB33, 26, .inl m_v))])) (tX11 kq ((cB33, .int) :: []))) (va_Qi (S := Unit) (fun (r : Int32) _ => r = out.1) (fun _ t => BC (dC, dI) (va_A ((a0, .inr (9, [.int m_t.1, .int m_t.2.1, .int m_t.2.2, .ref a1, g7, g8, g9, g10, g11, g12, g13, g14, g15, g16, g17, .ref a2, g18, g19, g20, g21, g22, g23, g24, g25, g26, g27, g28, g29, g30, g31])) :: bX11 a1 uq kq q_q ([(a2, .inl (cB33, 26, .inl m_v))])) sz) ((a0, .inr (9, [.int out.2.1, .int out.2.2.1, .int out.2.2.2, .ref a1, g7, g8, g9, g10, g11, g12, g13, g14, g15, g16, g17, .ref a2, g18, g19, g20, g21, g22, g23, g24, g25, g26, g27, g28, g29, g30, g31])) :: bX11 a1 uq kq q_q ([(a2, .inl (cB33, 26, .inl m_v))])) [] t) (va_A ((a0, .inr (9, [.int m_t.1, .int m_t.2.1, .int m_t.2.2, .ref a1, g7, g8, g9, g10, g11, g12, g13, g14, g15, g16, g17, .ref a2, g18, g19, g20, g21, g22, g23, g24, g25, g26, g27, g28, g29, g30, g31])) :: bX11 a1 uq kq q_q ([(a2, .inl (cB33, 26, .inl m_v))])) sz)) 0 0 (va_A ((a0, .inr (9, [.int m_t.1, .int m_t.2.1, .int m_t.2.2, .ref a1, g7, g8, g9, g10, g11, g12, g13, g14, g15, g16, g17, .ref a2, g18, g19, g20, g21, g22, g23, g24, g25, g26, g27, g28, g29, g30, g31])) :: bX11 a1 uq kq q_q ([(a2, .inl (cB33, 26, .inl m_v))])) sz) := by
  refine Met.ofW (cc := cX12_bestBait) (maxL := 6) (ret := (some .int)) (by decide) rfl ?_
  intro p e s m args below meth c s₁ B0 hml hv
  obtain ⟨rfl, hsz, hP, hK, hD0, hN⟩ := hv
  have hx := B0.exec
  have hb := B0.bytes
  have hr := B0.returns
  have hts := atoms_spec (ws := vfX12_bestBait) B0.pre
  have hown : s.vm.findClass RX12 = some m.cls := findClass_of_methodNamed B0.named
  have hlocks := B0.notSynchronized
  subst hsz
  have hD := hD0.self (sz := s.heap.size)
  generalize hAe : va_A ((a0, .inr (9, [.int m_t.1, .int m_t.2.1, .int m_t.2.2, .ref a1, g7, g8, g9, g10, g11, g12, g13, g14, g15, g16, g17, .ref a2, g18, g19, g20, g21, g22, g23, g24, g25, g26, g27, g28, g29, g30, g31])) :: bX11 a1 uq kq q_q ([(a2, .inl (cB33, 26, .inl m_v))])) s.heap.size = A at hD ⊢
  have hA : ∀ q : Nat, s.heap.size ≤ q → A q := fun q h => by rw [← hAe]; exact Or.inr h
  have hS : va_S A s.heap s.heap [] := va_S.rf
  have hP : va_P (dC, dI) vwCl ((a0, .inr (9, [.int m_t.1, .int m_t.2.1, .int m_t.2.2, .ref a1, g7, g8, g9, g10, g11, g12, g13, g14, g15, g16, g17, .ref a2, g18, g19, g20, g21, g22, g23, g24, g25, g26, g27, g28, g29, g30, g31])) :: bX11 a1 uq kq q_q ([(a2, .inl (cB33, 26, .inl m_v))])) s.heap := hP
  have hl := lv_entry ([.ref a0]) (n := 6) (Nat.le_of_ble_eq_true rfl)
  rw [lg_entry_eq]
  generalize (lg_sl ([.ref a0]) ++ List.replicate (6 - (lg_sl ([.ref a0])).length) Slot.unset).toArray = ls at hl ⊢
  have hl : lv_has ls 6 [(0, .ref a0)] := hl
  refine W_q (fun QQ hQQ => ?_)
  rw [f_X12_bestBait] at h
  refine lv_aload_n hx hb dX12_bestBait_0 rfl (lv_at hl 0 rfl) ?_
  refine lv_iconst (v := 0) hx hb dX12_bestBait_1 (by decide) ?_
  refine va_put (D := (dC, dI)) (ci := 9) (v := .int 0) (ty := .int) (C := RX12) (T := TX12) (N := 30) hx hb hts ifX12_bestBait_X12 tyX12 tyX12_ok nmX12 hown hK hP hD hS 0 rfl rfl 0 (by decide) (hts (.fieldLink RX12 36 "HookPierModel" "thrown" "I") (List.mem_of_getElem? (i := 1) rfl)) (fun _ h9 => h9) rfl (by decide +kernel) rfl rfl (Nat.le_of_ble_eq_true rfl) dX12_bestBait_2 (fun H locs hP hD hS => ?_)
  have hP : va_P (dC, dI) vwCl ((a0, .inr (9, [.int 0, .int m_t.2.1, .int m_t.2.2, .ref a1, g7, g8, g9, g10, g11, g12, g13, g14, g15, g16, g17, .ref a2, g18, g19, g20, g21, g22, g23, g24, g25, g26, g27, g28, g29, g30, g31])) :: bX11 a1 uq kq q_q ([(a2, .inl (cB33, 26, .inl m_v))])) H := hP
  have hD : va_D A ((a0, .inr (9, [.int 0, .int m_t.2.1, .int m_t.2.2, .ref a1, g7, g8, g9, g10, g11, g12, g13, g14, g15, g16, g17, .ref a2, g18, g19, g20, g21, g22, g23, g24, g25, g26, g27, g28, g29, g30, g31])) :: bX11 a1 uq kq q_q ([(a2, .inl (cB33, 26, .inl m_v))])) := hD
  refine lv_aload_n hx hb dX12_bestBait_5 rfl (lv_at hl 0 rfl) ?_
  refine va_get (D := (dC, dI)) (ci := 9) (v := .ref a1) (C := RX12) (T := TX12) (N := 30) hx hb hts ifX12_bestBait_X12 hown hK hP 0 rfl rfl 3 (by decide) (hts (.fieldLink RX12 299 "HookPierModel" "pier" "LHookPierModel$Pier;") (List.mem_of_getElem? (i := 2) rfl)) (fun _ h9 => h9) rfl dX12_bestBait_6 ?_
  refine lv_ifnonnull (tgt := 18) hx hb dX12_bestBait_9 (by decide) ?_
  refine lv_iconst (v := 0) hx hb dX12_bestBait_18 (by decide) ?_
  refine lv_istore_n (lv' := [(1, .int 0), (0, .ref a0)]) hx hb dX12_bestBait_19 rfl hl (by decide) rfl (fun ls hl => ?_)
  refine lv_iconst (v := (-1)) hx hb dX12_bestBait_20 (by decide) ?_
  refine lv_istore_n (lv' := [(2, .int (-1)), (1, .int 0), (0, .ref a0)]) hx hb dX12_bestBait_21 rfl hl (by decide) rfl (fun ls hl => ?_)
  refine lv_iconst (v := 0) hx hb dX12_bestBait_22 (by decide) ?_
  refine lv_istore_n (lv' := [(3, .int 0), (2, .int (-1)), (1, .int 0), (0, .ref a0)]) hx hb dX12_bestBait_23 rfl hl (by decide) rfl (fun ls hl => ?_)
  have L24 : ∀ (n24 : Nat) (v24_l3 : Int32) (v24_l2 : Int32) (v24_l1 : Int32) (H : Heap) (locs : List Loc) (ls : Array Slot), f_X12_bestBait_L24 m_t m_v q_q n24 v24_l3 v24_l2 v24_l1 = some out → va_P (dC, dI) vwCl ((a0, .inr (9, [.int 0, .int m_t.2.1, .int m_t.2.2, .ref a1, g7, g8, g9, g10, g11, g12, g13, g14, g15, g16, g17, .ref a2, g18, g19, g20, g21, g22, g23, g24, g25, g26, g27, g28, g29, g30, g31])) :: bX11 a1 uq kq q_q ([(a2, .inl (cB33, 26, .inl m_v))])) H → va_D A ((a0, .inr (9, [.int 0, .int m_t.2.1, .int m_t.2.2, .ref a1, g7, g8, g9, g10, g11, g12, g13, g14, g15, g16, g17, .ref a2, g18, g19, g20, g21, g22, g23, g24, g25, g26, g27, g28, g29, g30, g31])) :: bX11 a1 uq kq q_q ([(a2, .inl (cB33, 26, .inl m_v))])) → va_S A s.heap H locs → lv_has ls 6 [(3, .int v24_l3), (2, .int v24_l2), (1, .int v24_l1), (0, .ref a0)] → W p l e (headSpec vfX12_bestBait { frames := 1, cells := 0, slots := 0, locals := 21 }).room s m ([.ref a0]).toArray below meth c H locs 0 0 QQ (F0 m 24 ls []) := by
    intro n24
    induction n24 with
    | zero =>
      intro v24_l3 v24_l2 v24_l1 H locs ls h  _ _ _ _
      rw [f_X12_bestBait_L24] at h
      cases h
    | succ n24 ih24 =>
      intro v24_l3 v24_l2 v24_l1 H locs ls h  hP hD hS hl
      rw [f_X12_bestBait_L24] at h
      refine lv_iload_n hx hb dX12_bestBait_24 rfl (lv_at hl 0 rfl) ?_
      refine lv_aload_n hx hb dX12_bestBait_25 rfl (lv_at hl 3 rfl) ?_
      refine va_get (D := (dC, dI)) (ci := 9) (v := .ref a1) (C := RX12) (T := TX12) (N := 30) hx hb hts ifX12_bestBait_X12 hown hK hP 0 rfl rfl 3 (by decide) (hts (.fieldLink RX12 299 "HookPierModel" "pier" "LHookPierModel$Pier;") (List.mem_of_getElem? (i := 2) rfl)) (fun _ h9 => h9) rfl dX12_bestBait_26 ?_
      refine va_getN (D := (dC, dI)) (ci := 8) (v := .int q_q.2.2.2.2.1) (C := RX11) (T := TX11) (N := 24) hx hb hts ifX12_bestBait_X11 hown hK hP 1 rfl rfl 4 (by decide) (va_Nw.use rfl (hN.1 (.fieldLinkNest RX12 175 "HookPierModel$Pier" "baits" "I" "HookPierModel") (List.mem_of_getElem? (i := 26) rfl))) (fun _ h9 => h9) rfl dX12_bestBait_29 ?_
      refine lv_icmp_ge (tgt := 115) hx hb dX12_bestBait_32 (by decide) (fun c32 => ?_) (fun c32 => ?_)
      · have h := (if_pos c32).symm.trans h
        refine lv_aload_n hx hb dX12_bestBait_115 rfl (lv_at hl 3 rfl) ?_
        refine lv_iload_n hx hb dX12_bestBait_116 rfl (lv_at hl 2 rfl) ?_
        obtain ⟨o117, eo117⟩ : ∃ o, o = f_X12_good v24_l1 ((0 : Int32), m_t.2) := ⟨_, rfl⟩
        have h := nm_of h o117 eo117
        refine cl_i (wc := ([(a0, .inr (9, [.int 0, .int m_t.2.1, .int m_t.2.2, .ref a1, g7, g8, g9, g10, g11, g12, g13, g14, g15, g16, g17, .ref a2, g18, g19, g20, g21, g22, g23, g24, g25, g26, g27, g28, g29, g30, g31]))])) (wr := (bX11 a1 uq kq q_q ([(a2, .inl (cB33, 26, .inl m_v))]))) (va_runV (As := [.int v24_l1]) (rest := []) ⟨hx, hb, hml, hown, hts⟩ (kfX12_good l dC dI a0 v24_l1 ((0 : Int32), m_t.2) (.ref a1) (g7) (g8) (g9) (g10) (g11) (g12) (g13) (g14) (g15) (g16) (g17) (.ref a2) (g18) (g19) (g20) (g21) (g22) (g23) (g24) (g25) (g26) (g27) (g28) (g29) (g30) (g31) H.size o117 eo117.symm) (cwV 1 hts gfX12_bestBait_0 rfl rfl rfl (by decide +kernel) ⟨(Nat.le_of_ble_eq_true rfl), (Nat.le_of_ble_eq_true rfl)⟩) (PV (hP.sub (ws' := ([(a0, .inr (9, [.int 0, .int m_t.2.1, .int m_t.2.2, .ref a1, g7, g8, g9, g10, g11, g12, g13, g14, g15, g16, g17, .ref a2, g18, g19, g20, g21, g22, g23, g24, g25, g26, g27, g28, g29, g30, g31]))])) [0] rfl) (hK.sub (tys' := ([])) [] rfl) (hD.sub (ws' := ([(a0, .inr (9, [.int 0, .int m_t.2.1, .int m_t.2.2, .ref a1, g7, g8, g9, g10, g11, g12, g13, g14, g15, g16, g17, .ref a2, g18, g19, g20, g21, g22, g23, g24, g25, g26, g27, g28, g29, g30, g31]))])) [0] (by decide) rfl) hN 0 rfl rfl) rfl rfl hl.1 rfl (lv_room (Nat.le_of_ble_eq_true rfl)) dX12_bestBait_117 ⟨(Nat.le_of_ble_eq_true rfl), (Nat.le_of_ble_eq_true rfl)⟩) hP hD hK hS hA [0] [1, 2, 3, 4, 5, 6, 7, 8, 9, 10, 11, 12, 13, 14, 15, 16] rfl rfl (by decide) (by decide) (fun r117 _ H locs hw hP hD _ hS => ?_)
        obtain rfl := hw
        have hP : va_P (dC, dI) vwCl (bX11 a1 uq kq q_q ([(a2, .inl (cB33, 26, .inl m_v)), (a0, .inr (9, [.int o117.2.1, .int o117.2.2.1, .int o117.2.2.2, .ref a1, g7, g8, g9, g10, g11, g12, g13, g14, g15, g16, g17, .ref a2, g18, g19, g20, g21, g22, g23, g24, g25, g26, g27, g28, g29, g30, g31]))])) H := hP
        have hD : va_D A (bX11 a1 uq kq q_q ([(a2, .inl (cB33, 26, .inl m_v)), (a0, .inr (9, [.int o117.2.1, .int o117.2.2.1, .int o117.2.2.2, .ref a1, g7, g8, g9, g10, g11, g12, g13, g14, g15, g16, g17, .ref a2, g18, g19, g20, g21, g22, g23, g24, g25, g26, g27, g28, g29, g30, g31]))])) := hD
        obtain rfl := Option.some.inj h
        have hP9 := hP.sub (ws' := ((a0, .inr (9, [.int o117.2.1, .int o117.2.2.1, .int o117.2.2.2, .ref a1, g7, g8, g9, g10, g11, g12, g13, g14, g15, g16, g17, .ref a2, g18, g19, g20, g21, g22, g23, g24, g25, g26, g27, g28, g29, g30, g31])) :: bX11 a1 uq kq q_q ([(a2, .inl (cB33, 26, .inl m_v))]))) [16, 0, 1, 2, 3, 4, 5, 6, 7, 8, 9, 10, 11, 12, 13, 14, 15] rfl
        have hD9 := hD.sub (ws' := ((a0, .inr (9, [.int o117.2.1, .int o117.2.2.1, .int o117.2.2.2, .ref a1, g7, g8, g9, g10, g11, g12, g13, g14, g15, g16, g17, .ref a2, g18, g19, g20, g21, g22, g23, g24, g25, g26, g27, g28, g29, g30, g31])) :: bX11 a1 uq kq q_q ([(a2, .inl (cB33, 26, .inl m_v))]))) [16, 0, 1, 2, 3, 4, 5, 6, 7, 8, 9, 10, 11, 12, 13, 14, 15] (by decide) rfl
        have hK9 := hK.sub (tys' := []) [] rfl
        rw [hQQ]
        exact W.iret (v := o117.1) hx hb hr (fun t ht hW => ⟨⟨o117.1, (), rfl, rfl, by rw [ht]; exact hP9, va_K.moved hW.alike hK9, hD9⟩, hS.F ht⟩) hS.2.2 dX12_bestBait_120
      · have h := (if_neg c32).symm.trans h
        refine lv_iconst (v := 0) hx hb dX12_bestBait_35 (by decide) ?_
        refine lv_istore (lv' := [(4, .int 0), (3, .int v24_l3), (2, .int v24_l2), (1, .int v24_l1), (0, .ref a0)]) hx hb dX12_bestBait_36 hl (by decide) rfl (fun ls hl => ?_)
        refine lv_iconst (v := 0) hx hb dX12_bestBait_38 (by decide) ?_
        refine lv_istore (lv' := [(5, .int 0), (4, .int 0), (3, .int v24_l3), (2, .int v24_l2), (1, .int v24_l1), (0, .ref a0)]) hx hb dX12_bestBait_39 hl (by decide) rfl (fun ls hl => ?_)
        have L41 : ∀ (n41 : Nat) (v41_l5 : Int32) (v41_l4 : Int32) (H : Heap) (locs : List Loc) (ls : Array Slot), f_X12_bestBait_L41 m_v q_q (f_X12_bestBait_L24 m_t m_v q_q n24) v24_l1 v24_l2 v24_l3 n41 v41_l5 v41_l4 = some out → va_P (dC, dI) vwCl ((a0, .inr (9, [.int 0, .int m_t.2.1, .int m_t.2.2, .ref a1, g7, g8, g9, g10, g11, g12, g13, g14, g15, g16, g17, .ref a2, g18, g19, g20, g21, g22, g23, g24, g25, g26, g27, g28, g29, g30, g31])) :: bX11 a1 uq kq q_q ([(a2, .inl (cB33, 26, .inl m_v))])) H → va_D A ((a0, .inr (9, [.int 0, .int m_t.2.1, .int m_t.2.2, .ref a1, g7, g8, g9, g10, g11, g12, g13, g14, g15, g16, g17, .ref a2, g18, g19, g20, g21, g22, g23, g24, g25, g26, g27, g28, g29, g30, g31])) :: bX11 a1 uq kq q_q ([(a2, .inl (cB33, 26, .inl m_v))])) → va_S A s.heap H locs → lv_has ls 6 [(5, .int v41_l5), (4, .int v41_l4), (3, .int v24_l3), (2, .int v24_l2), (1, .int v24_l1), (0, .ref a0)] → W p l e (headSpec vfX12_bestBait { frames := 1, cells := 0, slots := 0, locals := 21 }).room s m ([.ref a0]).toArray below meth c H locs 0 0 QQ (F0 m 41 ls []) := by
          intro n41
          induction n41 with
          | zero =>
            intro v41_l5 v41_l4 H locs ls h  _ _ _ _
            rw [f_X12_bestBait_L41] at h
            cases h
          | succ n41 ih41 =>
            intro v41_l5 v41_l4 H locs ls h  hP hD hS hl
            rw [f_X12_bestBait_L41] at h
            refine lv_iload hx hb dX12_bestBait_41 (lv_at hl 0 rfl) ?_
            refine lv_aload_n hx hb dX12_bestBait_43 rfl (lv_at hl 5 rfl) ?_
            refine va_get (D := (dC, dI)) (ci := 9) (v := .ref a1) (C := RX12) (T := TX12) (N := 30) hx hb hts ifX12_bestBait_X12 hown hK hP 0 rfl rfl 3 (by decide) (hts (.fieldLink RX12 299 "HookPierModel" "pier" "LHookPierModel$Pier;") (List.mem_of_getElem? (i := 2) rfl)) (fun _ h9 => h9) rfl dX12_bestBait_44 ?_
            refine va_getN (D := (dC, dI)) (ci := 8) (v := .int q_q.2.2.2.2.2.2.1) (C := RX11) (T := TX11) (N := 24) hx hb hts ifX12_bestBait_X11 hown hK hP 1 rfl rfl 6 (by decide) (va_Nw.use rfl (hN.1 (.fieldLinkNest RX12 231 "HookPierModel$Pier" "answers" "I" "HookPierModel") (List.mem_of_getElem? (i := 28) rfl))) (fun _ h9 => h9) rfl dX12_bestBait_47 ?_
            refine lv_icmp_ge (tgt := 95) hx hb dX12_bestBait_50 (by decide) (fun c50 => ?_) (fun c50 => ?_)
            · have h := (if_pos c50).symm.trans h
              refine lv_iload hx hb dX12_bestBait_95 (lv_at hl 1 rfl) ?_
              refine lv_iload_n hx hb dX12_bestBait_97 rfl (lv_at hl 3 rfl) ?_
              have J109 : ∀ (v109_l1 : Int32) (v109_l2 : Int32) (H : Heap) (locs : List Loc) (ls : Array Slot), f_X12_bestBait_J109 (f_X12_bestBait_L24 m_t m_v q_q n24) v24_l3 v109_l1 v109_l2 = some out → va_P (dC, dI) vwCl ((a0, .inr (9, [.int 0, .int m_t.2.1, .int m_t.2.2, .ref a1, g7, g8, g9, g10, g11, g12, g13, g14, g15, g16, g17, .ref a2, g18, g19, g20, g21, g22, g23, g24, g25, g26, g27, g28, g29, g30, g31])) :: bX11 a1 uq kq q_q ([(a2, .inl (cB33, 26, .inl m_v))])) H → va_D A ((a0, .inr (9, [.int 0, .int m_t.2.1, .int m_t.2.2, .ref a1, g7, g8, g9, g10, g11, g12, g13, g14, g15, g16, g17, .ref a2, g18, g19, g20, g21, g22, g23, g24, g25, g26, g27, g28, g29, g30, g31])) :: bX11 a1 uq kq q_q ([(a2, .inl (cB33, 26, .inl m_v))])) → va_S A s.heap H locs → lv_has ls 6 [(1, .int v109_l1), (2, .int v109_l2), (3, .int v24_l3), (0, .ref a0)] → W p l e (headSpec vfX12_bestBait { frames := 1, cells := 0, slots := 0, locals := 21 }).room s m ([.ref a0]).toArray below meth c H locs 0 0 QQ (F0 m 109 ls []) := by
                intro v109_l1 v109_l2 H locs ls h  hP hD hS hl
                rw [f_X12_bestBait_J109] at h
                refine lv_iinc (v := (v24_l3 + (1 : Int32))) (lv' := [(3, .int (v24_l3 + (1 : Int32))), (1, .int v109_l1), (2, .int v109_l2), (0, .ref a0)]) hx hb dX12_bestBait_109 hl (k := 2) rfl rfl (by decide) rfl (fun ls hl => ?_)
                refine lv_goto (tgt := 24) hx hb dX12_bestBait_112 (by decide) ?_
                exact ih24 (v24_l3 + (1 : Int32)) v109_l2 v109_l1 H _ ls h  hP hD hS (lv_sub hl [0, 2, 1, 3] rfl)
              refine lv_icmp_gt (tgt := 104) hx hb dX12_bestBait_98 (by decide) (fun c98 => ?_) (fun c98 => ?_)
              · have h := (if_pos c98).symm.trans h
                refine lv_iload hx hb dX12_bestBait_104 (lv_at hl 1 rfl) ?_
                refine lv_istore_n (lv' := [(2, .int v41_l4), (5, .int v41_l5), (4, .int v41_l4), (3, .int v24_l3), (1, .int v24_l1), (0, .ref a0)]) hx hb dX12_bestBait_106 rfl hl (by decide) rfl (fun ls hl => ?_)
                refine lv_iload_n hx hb dX12_bestBait_107 rfl (lv_at hl 3 rfl) ?_
                refine lv_istore_n (lv' := [(1, .int v24_l3), (2, .int v41_l4), (5, .int v41_l5), (4, .int v41_l4), (3, .int v24_l3), (0, .ref a0)]) hx hb dX12_bestBait_108 rfl hl (by decide) rfl (fun ls hl => ?_)
                exact J109 v24_l3 v41_l4 H _ ls h  hP hD hS (lv_sub hl [0, 1, 4, 5] rfl)
              · have h := (if_neg c98).symm.trans h
                refine lv_goto (tgt := 109) hx hb dX12_bestBait_101 (by decide) ?_
                exact J109 v24_l1 v24_l2 H _ ls h  hP hD hS (lv_sub hl [4, 3, 2, 5] rfl)
            · have h := (if_neg c50).symm.trans h
              refine lv_iload hx hb dX12_bestBait_53 (lv_at hl 1 rfl) ?_
              refine lv_aload_n hx hb dX12_bestBait_55 rfl (lv_at hl 5 rfl) ?_
              refine va_get (D := (dC, dI)) (ci := 9) (v := .ref a2) (C := RX12) (T := TX12) (N := 30) hx hb hts ifX12_bestBait_X12 hown hK hP 0 rfl rfl 15 (by decide) (hts (.fieldLink RX12 17 "HookPierModel" "v" "[I") (List.mem_of_getElem? (i := 7) rfl)) (fun _ h9 => h9) rfl dX12_bestBait_56 ?_
              refine lv_iconst (v := 0) hx hb dX12_bestBait_59 (by decide) ?_
              refine lv_iload hx hb dX12_bestBait_60 (lv_at hl 0 rfl) ?_
              refine lv_iadd hx hb dX12_bestBait_62 ?_
              obtain ⟨hg63, h⟩ := gA_of h
              refine va_iald hx hb hK hP 16 14 rfl rfl hg63 dX12_bestBait_63 ?_
              have J86 : ∀ (v86_t1 : Int32) (H : Heap) (locs : List Loc) (ls : Array Slot), f_X12_bestBait_J86 (f_X12_bestBait_L41 m_v q_q (f_X12_bestBait_L24 m_t m_v q_q n24) v24_l1 v24_l2 v24_l3 n41) v41_l4 v41_l5 v86_t1 = some out → 0 ≤ v86_t1.toInt ∧ v86_t1.toInt ≤ 1 → va_P (dC, dI) vwCl ((a0, .inr (9, [.int 0, .int m_t.2.1, .int m_t.2.2, .ref a1, g7, g8, g9, g10, g11, g12, g13, g14, g15, g16, g17, .ref a2, g18, g19, g20, g21, g22, g23, g24, g25, g26, g27, g28, g29, g30, g31])) :: bX11 a1 uq kq q_q ([(a2, .inl (cB33, 26, .inl m_v))])) H → va_D A ((a0, .inr (9, [.int 0, .int m_t.2.1, .int m_t.2.2, .ref a1, g7, g8, g9, g10, g11, g12, g13, g14, g15, g16, g17, .ref a2, g18, g19, g20, g21, g22, g23, g24, g25, g26, g27, g28, g29, g30, g31])) :: bX11 a1 uq kq q_q ([(a2, .inl (cB33, 26, .inl m_v))])) → va_S A s.heap H locs → lv_has ls 6 [(5, .int v41_l5), (3, .int v24_l3), (2, .int v24_l2), (1, .int v24_l1), (0, .ref a0)] → W p l e (headSpec vfX12_bestBait { frames := 1, cells := 0, slots := 0, locals := 21 }).room s m ([.ref a0]).toArray below meth c H locs 0 0 QQ (F0 m 86 ls [.int v86_t1, .int v41_l4]) := by
                intro v86_t1 H locs ls h zb_v86_t1 hP hD hS hl
                rw [f_X12_bestBait_J86] at h
                refine lv_iadd hx hb dX12_bestBait_86 ?_
                refine lv_istore (lv' := [(4, .int (v41_l4 + v86_t1)), (5, .int v41_l5), (3, .int v24_l3), (2, .int v24_l2), (1, .int v24_l1), (0, .ref a0)]) hx hb dX12_bestBait_87 hl (by decide) rfl (fun ls hl => ?_)
                refine lv_iinc (v := (v41_l5 + (1 : Int32))) (lv' := [(5, .int (v41_l5 + (1 : Int32))), (4, .int (v41_l4 + v86_t1)), (3, .int v24_l3), (2, .int v24_l2), (1, .int v24_l1), (0, .ref a0)]) hx hb dX12_bestBait_89 hl (k := 1) rfl rfl (by decide) rfl (fun ls hl => ?_)
                refine lv_goto (tgt := 41) hx hb dX12_bestBait_92 (by decide) ?_
                exact ih41 (v41_l5 + (1 : Int32)) (v41_l4 + v86_t1) H _ ls h  hP hD hS (lv_sub hl [0, 1, 2, 3, 4, 5] rfl)
              have J85 : ∀ (H : Heap) (locs : List Loc) (ls : Array Slot), f_X12_bestBait_J85 (f_X12_bestBait_L41 m_v q_q (f_X12_bestBait_L24 m_t m_v q_q n24) v24_l1 v24_l2 v24_l3 n41) v41_l4 v41_l5 = some out → va_P (dC, dI) vwCl ((a0, .inr (9, [.int 0, .int m_t.2.1, .int m_t.2.2, .ref a1, g7, g8, g9, g10, g11, g12, g13, g14, g15, g16, g17, .ref a2, g18, g19, g20, g21, g22, g23, g24, g25, g26, g27, g28, g29, g30, g31])) :: bX11 a1 uq kq q_q ([(a2, .inl (cB33, 26, .inl m_v))])) H → va_D A ((a0, .inr (9, [.int 0, .int m_t.2.1, .int m_t.2.2, .ref a1, g7, g8, g9, g10, g11, g12, g13, g14, g15, g16, g17, .ref a2, g18, g19, g20, g21, g22, g23, g24, g25, g26, g27, g28, g29, g30, g31])) :: bX11 a1 uq kq q_q ([(a2, .inl (cB33, 26, .inl m_v))])) → va_S A s.heap H locs → lv_has ls 6 [(5, .int v41_l5), (3, .int v24_l3), (2, .int v24_l2), (1, .int v24_l1), (0, .ref a0)] → W p l e (headSpec vfX12_bestBait { frames := 1, cells := 0, slots := 0, locals := 21 }).room s m ([.ref a0]).toArray below meth c H locs 0 0 QQ (F0 m 85 ls [.int v41_l4]) := by
                intro  H locs ls h  hP hD hS hl
                rw [f_X12_bestBait_J85] at h
                refine lv_iconst (v := 0) hx hb dX12_bestBait_85 (by decide) ?_
                exact J86 (0 : Int32) H _ ls h (by decide) hP hD hS (lv_sub hl [0, 1, 2, 3, 4] rfl)
              refine lv_if_ne (tgt := 85) hx hb dX12_bestBait_64 (by decide) (fun c64 => ?_) (fun c64 => ?_)
              · have h := (if_neg c64).symm.trans h
                exact J85  H _ ls h  hP hD hS (lv_sub hl [0, 2, 3, 4, 5] rfl)
              · have h := (if_pos c64).symm.trans h
                refine lv_aload_n hx hb dX12_bestBait_67 rfl (lv_at hl 5 rfl) ?_
                refine va_get (D := (dC, dI)) (ci := 9) (v := .ref a1) (C := RX12) (T := TX12) (N := 30) hx hb hts ifX12_bestBait_X12 hown hK hP 0 rfl rfl 3 (by decide) (hts (.fieldLink RX12 299 "HookPierModel" "pier" "LHookPierModel$Pier;") (List.mem_of_getElem? (i := 2) rfl)) (fun _ h9 => h9) rfl dX12_bestBait_68 ?_
                refine va_getN (D := (dC, dI)) (ci := 8) (v := .ref (uq 5)) (C := RX11) (T := TX11) (N := 24) hx hb hts ifX12_bestBait_X11 hown hK hP 1 rfl rfl 15 (by decide) (va_Nw.use rfl (hN.1 (.fieldLinkNest RX12 265 "HookPierModel$Pier" "likes" "[I" "HookPierModel") (List.mem_of_getElem? (i := 37) rfl))) (fun _ h9 => h9) rfl dX12_bestBait_71 ?_
                refine lv_iload hx hb dX12_bestBait_74 (lv_at hl 0 rfl) ?_
                obtain ⟨hg76, h⟩ := gA_of h
                refine va_iald hx hb hK hP 7 5 rfl rfl hg76 dX12_bestBait_76 ?_
                refine lv_iload_n hx hb dX12_bestBait_77 rfl (lv_at hl 2 rfl) ?_
                refine lv_icmp_ne (tgt := 85) hx hb dX12_bestBait_78 (by decide) (fun c78 => ?_) (fun c78 => ?_)
                · have h := (if_neg c78).symm.trans h
                  exact J85  H _ ls h  hP hD hS (lv_sub hl [0, 2, 3, 4, 5] rfl)
                · have h := (if_pos c78).symm.trans h
                  refine lv_iconst (v := 1) hx hb dX12_bestBait_81 (by decide) ?_
                  refine lv_goto (tgt := 86) hx hb dX12_bestBait_82 (by decide) ?_
                  exact J86 (1 : Int32) H _ ls h (by decide) hP hD hS (lv_sub hl [0, 2, 3, 4, 5] rfl)
        exact L41 FU (0 : Int32) (0 : Int32) H _ ls h  hP hD hS (lv_sub hl [0, 1, 2, 3, 4, 5] rfl)
  exact L24 FU (0 : Int32) (-1 : Int32) (0 : Int32) H _ ls h  hP hD hS (lv_sub hl [0, 1, 2, 3] rfl)
theorem dX12_hungerFor_0 : decode cX12_hungerFor 0 = .ok (.aload_n 0, 1) := by decide +kernel
theorem dX12_hungerFor_1 : decode cX12_hungerFor 1 = .ok (.iconst 0, 1) := by decide +kernel
theorem dX12_hungerFor_11 : decode cX12_hungerFor 11 = .ok (.iload_n 2, 1) := by decide +kernel
theorem dX12_hungerFor_12 : decode cX12_hungerFor 12 = .ok (.iload_n 3, 1) := by decide +kernel
theorem dX12_hungerFor_13 : decode cX12_hungerFor 13 = .ok (.iload 4, 2) := by decide +kernel
theorem dX12_hungerFor_15 : decode cX12_hungerFor 15 = .ok (.invokevirtual 353, 3) := by decide +kernel
theorem dX12_hungerFor_18 : decode cX12_hungerFor 18 = .ok (.istore 5, 2) := by decide +kernel
theorem dX12_hungerFor_2 : decode cX12_hungerFor 2 = .ok (.putfield 36, 3) := by decide +kernel
theorem dX12_hungerFor_20 : decode cX12_hungerFor 20 = .ok (.iload 5, 2) := by decide +kernel
theorem dX12_hungerFor_22 : decode cX12_hungerFor 22 = .ok (.ifCond .le 10, 3) := by decide +kernel
theorem dX12_hungerFor_25 : decode cX12_hungerFor 25 = .ok (.aload_n 0, 1) := by decide +kernel
theorem dX12_hungerFor_26 : decode cX12_hungerFor 26 = .ok (.iload 5, 2) := by decide +kernel
theorem dX12_hungerFor_28 : decode cX12_hungerFor 28 = .ok (.invokevirtual 42, 3) := by decide +kernel
theorem dX12_hungerFor_31 : decode cX12_hungerFor 31 = .ok (.ireturn, 1) := by decide +kernel
theorem dX12_hungerFor_32 : decode cX12_hungerFor 32 = .ok (.iconst 0, 1) := by decide +kernel
theorem dX12_hungerFor_33 : decode cX12_hungerFor 33 = .ok (.istore 6, 2) := by decide +kernel
theorem dX12_hungerFor_35 : decode cX12_hungerFor 35 = .ok (.iload 6, 2) := by decide +kernel
theorem dX12_hungerFor_37 : decode cX12_hungerFor 37 = .ok (.bipush 99, 2) := by decide +kernel
theorem dX12_hungerFor_39 : decode cX12_hungerFor 39 = .ok (.if_icmp .gt 35, 3) := by decide +kernel
theorem dX12_hungerFor_42 : decode cX12_hungerFor 42 = .ok (.aload_n 0, 1) := by decide +kernel
theorem dX12_hungerFor_43 : decode cX12_hungerFor 43 = .ok (.getfield 299, 3) := by decide +kernel
theorem dX12_hungerFor_46 : decode cX12_hungerFor 46 = .ok (.iload 6, 2) := by decide +kernel
theorem dX12_hungerFor_48 : decode cX12_hungerFor 48 = .ok (.iload_n 1, 1) := by decide +kernel
theorem dX12_hungerFor_49 : decode cX12_hungerFor 49 = .ok (.iload_n 2, 1) := by decide +kernel
theorem dX12_hungerFor_5 : decode cX12_hungerFor 5 = .ok (.aload_n 0, 1) := by decide +kernel
theorem dX12_hungerFor_50 : decode cX12_hungerFor 50 = .ok (.iload_n 3, 1) := by decide +kernel
theorem dX12_hungerFor_51 : decode cX12_hungerFor 51 = .ok (.iload 4, 2) := by decide +kernel
theorem dX12_hungerFor_53 : decode cX12_hungerFor 53 = .ok (.invokevirtual 386, 3) := by decide +kernel
theorem dX12_hungerFor_56 : decode cX12_hungerFor 56 = .ok (.bipush 50, 2) := by decide +kernel
theorem dX12_hungerFor_58 : decode cX12_hungerFor 58 = .ok (.if_icmp .lt 10, 3) := by decide +kernel
theorem dX12_hungerFor_6 : decode cX12_hungerFor 6 = .ok (.aload_n 0, 1) := by decide +kernel
theorem dX12_hungerFor_61 : decode cX12_hungerFor 61 = .ok (.aload_n 0, 1) := by decide +kernel
theorem dX12_hungerFor_62 : decode cX12_hungerFor 62 = .ok (.iload 6, 2) := by decide +kernel
theorem dX12_hungerFor_64 : decode cX12_hungerFor 64 = .ok (.invokevirtual 46, 3) := by decide +kernel
theorem dX12_hungerFor_67 : decode cX12_hungerFor 67 = .ok (.ireturn, 1) := by decide +kernel
theorem dX12_hungerFor_68 : decode cX12_hungerFor 68 = .ok (.iinc 6 1, 3) := by decide +kernel
theorem dX12_hungerFor_7 : decode cX12_hungerFor 7 = .ok (.iload_n 1, 1) := by decide +kernel
theorem dX12_hungerFor_71 : decode cX12_hungerFor 71 = .ok (.goto (-36), 3) := by decide +kernel
theorem dX12_hungerFor_74 : decode cX12_hungerFor 74 = .ok (.aload_n 0, 1) := by decide +kernel
theorem dX12_hungerFor_75 : decode cX12_hungerFor 75 = .ok (.bipush (-2), 2) := by decide +kernel
theorem dX12_hungerFor_77 : decode cX12_hungerFor 77 = .ok (.invokevirtual 46, 3) := by decide +kernel
theorem dX12_hungerFor_8 : decode cX12_hungerFor 8 = .ok (.invokevirtual 320, 3) := by decide +kernel
theorem dX12_hungerFor_80 : decode cX12_hungerFor 80 = .ok (.ireturn, 1) := by decide +kernel
def vfX12_hungerFor : List Cond := List.cons (.code yX12_hungerFor cX12_hungerFor 7 (some .int)) (apW [.fieldLink RX12 36 "HookPierModel" "thrown" "I", .methodLink RX12 320 yX12_isAnswer, .instanceMethod yX12_isAnswer, .selects RX12 yX12_isAnswer yX12_isAnswer, .initialized RX12, .methodLink RX12 353 yX12_refusesQuestion, .instanceMethod yX12_refusesQuestion, .selects RX12 yX12_refusesQuestion yX12_refusesQuestion, .methodLink RX12 46 yX12_good, .instanceMethod yX12_good, .selects RX12 yX12_good yX12_good, .fieldLink RX12 299 "HookPierModel" "pier" "LHookPierModel$Pier;", .methodLink RX12 386 yX11_wishBy, .instanceMethod yX11_wishBy, .selects RX11 yX11_wishBy yX11_wishBy, .initialized RX11, .methodLink RX12 42 yX12_refused, .instanceMethod yX12_refused, .selects RX12 yX12_refused yX12_refused] (apW wsX120 (apW vfX12_isAnswer (apW vfX12_refusesQuestion (apW vfX12_good (apW vfX11_wishBy (vfX12_refused)))))))
theorem ifX12_hungerFor_X12 : ∀ w ∈ wsX120, w ∈ vfX12_hungerFor := fun _ h => (List.mem_cons_of_mem _ (List.mem_append_right _ (List.mem_append_left _ h)))
theorem qfX12_hungerFor : Good vfX12_hungerFor := gd_cons (by decide +kernel) (gd_app (gd_dec (by decide +kernel) : Good [.fieldLink RX12 36 "HookPierModel" "thrown" "I", .methodLink RX12 320 yX12_isAnswer, .instanceMethod yX12_isAnswer, .selects RX12 yX12_isAnswer yX12_isAnswer, .initialized RX12, .methodLink RX12 353 yX12_refusesQuestion, .instanceMethod yX12_refusesQuestion, .selects RX12 yX12_refusesQuestion yX12_refusesQuestion, .methodLink RX12 46 yX12_good, .instanceMethod yX12_good, .selects RX12 yX12_good yX12_good, .fieldLink RX12 299 "HookPierModel" "pier" "LHookPierModel$Pier;", .methodLink RX12 386 yX11_wishBy, .instanceMethod yX11_wishBy, .selects RX11 yX11_wishBy yX11_wishBy, .initialized RX11, .methodLink RX12 42 yX12_refused, .instanceMethod yX12_refused, .selects RX12 yX12_refused yX12_refused]) (gd_app qsX12 (gd_app qfX12_isAnswer (gd_app qfX12_refusesQuestion (gd_app qfX12_good (gd_app qfX11_wishBy qfX12_refused))))))
theorem gfX12_hungerFor_0 : GoodIn vfX12_hungerFor (wsV RX12 320 RX12 yX12_isAnswer vfX12_isAnswer) := goodIn_app (goodIn_r [.methodLink RX12 320 yX12_isAnswer, .instanceMethod yX12_isAnswer, .selects RX12 yX12_isAnswer yX12_isAnswer, .initialized RX12] [2, 3, 4, 5] rfl (by decide +kernel)) (goodIn_m (fun _ h => (List.mem_cons_of_mem _ (List.mem_append_right _ (List.mem_append_right _ (List.mem_append_left _ h))))) qfX12_isAnswer)
theorem gfX12_hungerFor_1 : GoodIn vfX12_hungerFor (wsV RX12 353 RX12 yX12_refusesQuestion vfX12_refusesQuestion) := goodIn_app (goodIn_r [.methodLink RX12 353 yX12_refusesQuestion, .instanceMethod yX12_refusesQuestion, .selects RX12 yX12_refusesQuestion yX12_refusesQuestion, .initialized RX12] [6, 7, 8, 5] rfl (by decide +kernel)) (goodIn_m (fun _ h => (List.mem_cons_of_mem _ (List.mem_append_right _ (List.mem_append_right _ (List.mem_append_right _ (List.mem_append_left _ h)))))) qfX12_refusesQuestion)
theorem gfX12_hungerFor_2 : GoodIn vfX12_hungerFor (wsV RX12 46 RX12 yX12_good vfX12_good) := goodIn_app (goodIn_r [.methodLink RX12 46 yX12_good, .instanceMethod yX12_good, .selects RX12 yX12_good yX12_good, .initialized RX12] [9, 10, 11, 5] rfl (by decide +kernel)) (goodIn_m (fun _ h => (List.mem_cons_of_mem _ (List.mem_append_right _ (List.mem_append_right _ (List.mem_append_right _ (List.mem_append_right _ (List.mem_append_left _ h))))))) qfX12_good)
theorem gfX12_hungerFor_3 : GoodIn vfX12_hungerFor (wsV RX12 386 RX11 yX11_wishBy vfX11_wishBy) := goodIn_app (goodIn_r [.methodLink RX12 386 yX11_wishBy, .instanceMethod yX11_wishBy, .selects RX11 yX11_wishBy yX11_wishBy, .initialized RX11] [13, 14, 15, 16] rfl (by decide +kernel)) (goodIn_m (fun _ h => (List.mem_cons_of_mem _ (List.mem_append_right _ (List.mem_append_right _ (List.mem_append_right _ (List.mem_append_right _ (List.mem_append_right _ (List.mem_append_left _ h)))))))) qfX11_wishBy)
theorem gfX12_hungerFor_4 : GoodIn vfX12_hungerFor (wsV RX12 42 RX12 yX12_refused vfX12_refused) := goodIn_app (goodIn_r [.methodLink RX12 42 yX12_refused, .instanceMethod yX12_refused, .selects RX12 yX12_refused yX12_refused, .initialized RX12] [17, 18, 19, 5] rfl (by decide +kernel)) (goodIn_m (fun _ h => (List.mem_cons_of_mem _ (List.mem_append_right _ (List.mem_append_right _ (List.mem_append_right _ (List.mem_append_right _ (List.mem_append_right _ (List.mem_append_right _ h)))))))) qfX12_refused)
set_option maxHeartbeats 2000000 in
set_option maxRecDepth 100000 in
theorem kfX12_hungerFor (l : Launch) (dC : Nat → ClassId) (dI : Nat → Nat → Nat) (a0 : Nat) (k1 : Int32) (k2 : Int32) (k3 : Int32) (k4 : Int32) (a5 : Nat) (uq : Nat → Nat) (kq : Nat → ClassId) (m_t : TX12_t) (g9 : Value) (g10 : Value) (g11 : Value) (g12 : Value) (g13 : Value) (g14 : Value) (g15 : Value) (g16 : Value) (g17 : Value) (g18 : Value) (g19 : Value) (g20 : Value) (g21 : Value) (g22 : Value) (g23 : Value) (g24 : Value) (g25 : Value) (g26 : Value) (g27 : Value) (g28 : Value) (g29 : Value) (g30 : Value) (g31 : Value) (g32 : Value) (g33 : Value) (g34 : Value) (q_q : TX11_q) (sz : Nat) (out : (Int32 × TX12_t)) (h : f_X12_hungerFor k1 k2 k3 k4 m_t q_q = some out) : Met l yX12_hungerFor vfX12_hungerFor ({ frames := 2, cells := 0, slots := 0, locals := 47 }) (PC (dC, dI) [.ref a0, .int k1, .int k2, .int k3, .int k4] sz ((a0, .inr (9, [.int m_t.1, .int m_t.2.1, .int m_t.2.2, .ref a5, g9, g10, g11, g12, g13, g14, g15, g16, g17, g18, g19, g20, g21, g22, g23, g24, g25, g26, g27, g28, g29, g30, g31, g32, g33, g34])) :: bX11 a5 uq kq q_q []) (tX11 kq ([]))) (va_Qi (S := Unit) (fun (r : Int32) _ => r = out.1) (fun _ t => BC (dC, dI) (va_A ((a0, .inr (9, [.int m_t.1, .int m_t.2.1, .int m_t.2.2, .ref a5, g9, g10, g11, g12, g13, g14, g15, g16, g17, g18, g19, g20, g21, g22, g23, g24, g25, g26, g27, g28, g29, g30, g31, g32, g33, g34])) :: bX11 a5 uq kq q_q []) sz) ((a0, .inr (9, [.int out.2.1, .int out.2.2.1, .int out.2.2.2, .ref a5, g9, g10, g11, g12, g13, g14, g15, g16, g17, g18, g19, g20, g21, g22, g23, g24, g25, g26, g27, g28, g29, g30, g31, g32, g33, g34])) :: bX11 a5 uq kq q_q []) [] t) (va_A ((a0, .inr (9, [.int m_t.1, .int m_t.2.1, .int m_t.2.2, .ref a5, g9, g10, g11, g12, g13, g14, g15, g16, g17, g18, g19, g20, g21, g22, g23, g24, g25, g26, g27, g28, g29, g30, g31, g32, g33, g34])) :: bX11 a5 uq kq q_q []) sz)) 0 0 (va_A ((a0, .inr (9, [.int m_t.1, .int m_t.2.1, .int m_t.2.2, .ref a5, g9, g10, g11, g12, g13, g14, g15, g16, g17, g18, g19, g20, g21, g22, g23, g24, g25, g26, g27, g28, g29, g30, g31, g32, g33, g34])) :: bX11 a5 uq kq q_q []) sz) := by
  refine Met.ofW (cc := cX12_hungerFor) (maxL := 7) (ret := (some .int)) (by decide) rfl ?_
  intro p e s m args below meth c s₁ B0 hml hv
  obtain ⟨rfl, hsz, hP, hK, hD0, hN⟩ := hv
  have hx := B0.exec
  have hb := B0.bytes
  have hr := B0.returns
  have hts := atoms_spec (ws := vfX12_hungerFor) B0.pre
  have hown : s.vm.findClass RX12 = some m.cls := findClass_of_methodNamed B0.named
  have hlocks := B0.notSynchronized
  subst hsz
  have hD := hD0.self (sz := s.heap.size)
  generalize hAe : va_A ((a0, .inr (9, [.int m_t.1, .int m_t.2.1, .int m_t.2.2, .ref a5, g9, g10, g11, g12, g13, g14, g15, g16, g17, g18, g19, g20, g21, g22, g23, g24, g25, g26, g27, g28, g29, g30, g31, g32, g33, g34])) :: bX11 a5 uq kq q_q []) s.heap.size = A at hD ⊢
  have hA : ∀ q : Nat, s.heap.size ≤ q → A q := fun q h => by rw [← hAe]; exact Or.inr h
  have hS : va_S A s.heap s.heap [] := va_S.rf
  have hP : va_P (dC, dI) vwCl ((a0, .inr (9, [.int m_t.1, .int m_t.2.1, .int m_t.2.2, .ref a5, g9, g10, g11, g12, g13, g14, g15, g16, g17, g18, g19, g20, g21, g22, g23, g24, g25, g26, g27, g28, g29, g30, g31, g32, g33, g34])) :: bX11 a5 uq kq q_q []) s.heap := hP
  have hl := lv_entry ([.ref a0, .int k1, .int k2, .int k3, .int k4]) (n := 7) (Nat.le_of_ble_eq_true rfl)
  rw [lg_entry_eq]
  generalize (lg_sl ([.ref a0, .int k1, .int k2, .int k3, .int k4]) ++ List.replicate (7 - (lg_sl ([.ref a0, .int k1, .int k2, .int k3, .int k4])).length) Slot.unset).toArray = ls at hl ⊢
  have hl : lv_has ls 7 [(0, .ref a0), (1, .int k1), (2, .int k2), (3, .int k3), (4, .int k4)] := hl
  refine W_q (fun QQ hQQ => ?_)
  rw [f_X12_hungerFor] at h
  refine lv_aload_n hx hb dX12_hungerFor_0 rfl (lv_at hl 0 rfl) ?_
  refine lv_iconst (v := 0) hx hb dX12_hungerFor_1 (by decide) ?_
  refine va_put (D := (dC, dI)) (ci := 9) (v := .int 0) (ty := .int) (C := RX12) (T := TX12) (N := 30) hx hb hts ifX12_hungerFor_X12 tyX12 tyX12_ok nmX12 hown hK hP hD hS 0 rfl rfl 0 (by decide) (hts (.fieldLink RX12 36 "HookPierModel" "thrown" "I") (List.mem_of_getElem? (i := 1) rfl)) (fun _ h9 => h9) rfl (by decide +kernel) rfl rfl (Nat.le_of_ble_eq_true rfl) dX12_hungerFor_2 (fun H locs hP hD hS => ?_)
  have hP : va_P (dC, dI) vwCl ((a0, .inr (9, [.int 0, .int m_t.2.1, .int m_t.2.2, .ref a5, g9, g10, g11, g12, g13, g14, g15, g16, g17, g18, g19, g20, g21, g22, g23, g24, g25, g26, g27, g28, g29, g30, g31, g32, g33, g34])) :: bX11 a5 uq kq q_q []) H := hP
  have hD : va_D A ((a0, .inr (9, [.int 0, .int m_t.2.1, .int m_t.2.2, .ref a5, g9, g10, g11, g12, g13, g14, g15, g16, g17, g18, g19, g20, g21, g22, g23, g24, g25, g26, g27, g28, g29, g30, g31, g32, g33, g34])) :: bX11 a5 uq kq q_q []) := hD
  refine lv_aload_n hx hb dX12_hungerFor_5 rfl (lv_at hl 0 rfl) ?_
  refine lv_aload_n hx hb dX12_hungerFor_6 rfl (lv_at hl 0 rfl) ?_
  refine lv_iload_n hx hb dX12_hungerFor_7 rfl (lv_at hl 1 rfl) ?_
  obtain ⟨o8, eo8⟩ : ∃ o, o = f_X12_isAnswer k1 q_q := ⟨_, rfl⟩
  have h := nm_of h o8 eo8
  refine cl_i (wc := ((a0, .inr (9, [.int 0, .int m_t.2.1, .int m_t.2.2, .ref a5, g9, g10, g11, g12, g13, g14, g15, g16, g17, g18, g19, g20, g21, g22, g23, g24, g25, g26, g27, g28, g29, g30, g31, g32, g33, g34])) :: bX11 a5 uq kq q_q [])) (wr := []) (va_runV (As := [.int k1]) (rest := [.ref a0]) ⟨hx, hb, hml, hown, hts⟩ (kfX12_isAnswer l dC dI a0 k1 a5 uq kq (.int 0) (.int m_t.2.1) (.int m_t.2.2) (g9) (g10) (g11) (g12) (g13) (g14) (g15) (g16) (g17) (g18) (g19) (g20) (g21) (g22) (g23) (g24) (g25) (g26) (g27) (g28) (g29) (g30) (g31) (g32) (g33) (g34) q_q H.size o8 eo8.symm) (cwV 1 hts gfX12_hungerFor_0 rfl rfl rfl (by decide +kernel) ⟨(Nat.le_of_ble_eq_true rfl), (Nat.le_of_ble_eq_true rfl)⟩) (PV (hP.sub (ws' := ((a0, .inr (9, [.int 0, .int m_t.2.1, .int m_t.2.2, .ref a5, g9, g10, g11, g12, g13, g14, g15, g16, g17, g18, g19, g20, g21, g22, g23, g24, g25, g26, g27, g28, g29, g30, g31, g32, g33, g34])) :: bX11 a5 uq kq q_q [])) [0, 1, 2, 3, 4, 5, 6, 7, 8, 9, 10, 11, 12, 13, 14, 15] rfl) (hK.sub (tys' := (tX11 kq ([]))) [0, 1, 2, 3, 4, 5, 6, 7, 8, 9, 10, 11, 12, 13] rfl) (hD.sub (ws' := ((a0, .inr (9, [.int 0, .int m_t.2.1, .int m_t.2.2, .ref a5, g9, g10, g11, g12, g13, g14, g15, g16, g17, g18, g19, g20, g21, g22, g23, g24, g25, g26, g27, g28, g29, g30, g31, g32, g33, g34])) :: bX11 a5 uq kq q_q [])) [0, 1, 2, 3, 4, 5, 6, 7, 8, 9, 10, 11, 12, 13, 14, 15] (by decide) rfl) hN 0 rfl rfl) rfl rfl hl.1 rfl (lv_room (Nat.le_of_ble_eq_true rfl)) dX12_hungerFor_8 ⟨(Nat.le_of_ble_eq_true rfl), (Nat.le_of_ble_eq_true rfl)⟩) hP hD hK hS hA [0, 1, 2, 3, 4, 5, 6, 7, 8, 9, 10, 11, 12, 13, 14, 15] [] rfl rfl (by decide) (by decide) (fun r8 _ H locs hw hP hD _ hS => ?_)
  obtain ⟨hw, br8⟩ := hw
  obtain rfl := hw.symm
  have hP : va_P (dC, dI) vwCl ((a0, .inr (9, [.int 0, .int m_t.2.1, .int m_t.2.2, .ref a5, g9, g10, g11, g12, g13, g14, g15, g16, g17, g18, g19, g20, g21, g22, g23, g24, g25, g26, g27, g28, g29, g30, g31, g32, g33, g34])) :: bX11 a5 uq kq q_q []) H := hP
  have hD : va_D A ((a0, .inr (9, [.int 0, .int m_t.2.1, .int m_t.2.2, .ref a5, g9, g10, g11, g12, g13, g14, g15, g16, g17, g18, g19, g20, g21, g22, g23, g24, g25, g26, g27, g28, g29, g30, g31, g32, g33, g34])) :: bX11 a5 uq kq q_q []) := hD
  refine lv_iload_n hx hb dX12_hungerFor_11 rfl (lv_at hl 2 rfl) ?_
  refine lv_iload_n hx hb dX12_hungerFor_12 rfl (lv_at hl 3 rfl) ?_
  refine lv_iload hx hb dX12_hungerFor_13 (lv_at hl 4 rfl) ?_
  obtain ⟨o15, eo15⟩ : ∃ o, o = f_X12_refusesQuestion o8 k2 k3 k4 q_q := ⟨_, rfl⟩
  have h := nm_of h o15 eo15
  refine cl_i (wc := ((a0, .inr (9, [.int 0, .int m_t.2.1, .int m_t.2.2, .ref a5, g9, g10, g11, g12, g13, g14, g15, g16, g17, g18, g19, g20, g21, g22, g23, g24, g25, g26, g27, g28, g29, g30, g31, g32, g33, g34])) :: bX11 a5 uq kq q_q [])) (wr := []) (va_runV (As := [.int o8, .int k2, .int k3, .int k4]) (rest := []) ⟨hx, hb, hml, hown, hts⟩ (kfX12_refusesQuestion l dC dI a0 o8 k2 k3 k4 a5 uq kq (.int 0) (.int m_t.2.1) (.int m_t.2.2) (g9) (g10) (g11) (g12) (g13) (g14) (g15) (g16) (g17) (g18) (g19) (g20) (g21) (g22) (g23) (g24) (g25) (g26) (g27) (g28) (g29) (g30) (g31) (g32) (g33) (g34) q_q H.size o15 eo15.symm) (cwV 4 hts gfX12_hungerFor_1 rfl rfl rfl (by decide +kernel) ⟨(Nat.le_of_ble_eq_true rfl), (Nat.le_of_ble_eq_true rfl)⟩) (PV (hP.sub (ws' := ((a0, .inr (9, [.int 0, .int m_t.2.1, .int m_t.2.2, .ref a5, g9, g10, g11, g12, g13, g14, g15, g16, g17, g18, g19, g20, g21, g22, g23, g24, g25, g26, g27, g28, g29, g30, g31, g32, g33, g34])) :: bX11 a5 uq kq q_q [])) [0, 1, 2, 3, 4, 5, 6, 7, 8, 9, 10, 11, 12, 13, 14, 15] rfl) (hK.sub (tys' := (tX11 kq ([]))) [0, 1, 2, 3, 4, 5, 6, 7, 8, 9, 10, 11, 12, 13] rfl) (hD.sub (ws' := ((a0, .inr (9, [.int 0, .int m_t.2.1, .int m_t.2.2, .ref a5, g9, g10, g11, g12, g13, g14, g15, g16, g17, g18, g19, g20, g21, g22, g23, g24, g25, g26, g27, g28, g29, g30, g31, g32, g33, g34])) :: bX11 a5 uq kq q_q [])) [0, 1, 2, 3, 4, 5, 6, 7, 8, 9, 10, 11, 12, 13, 14, 15] (by decide) rfl) hN 0 rfl rfl) rfl rfl hl.1 rfl (lv_room (Nat.le_of_ble_eq_true rfl)) dX12_hungerFor_15 ⟨(Nat.le_of_ble_eq_true rfl), (Nat.le_of_ble_eq_true rfl)⟩) hP hD hK hS hA [0, 1, 2, 3, 4, 5, 6, 7, 8, 9, 10, 11, 12, 13, 14, 15] [] rfl rfl (by decide) (by decide) (fun r15 _ H locs hw hP hD _ hS => ?_)
  obtain rfl := hw.symm
  have hP : va_P (dC, dI) vwCl ((a0, .inr (9, [.int 0, .int m_t.2.1, .int m_t.2.2, .ref a5, g9, g10, g11, g12, g13, g14, g15, g16, g17, g18, g19, g20, g21, g22, g23, g24, g25, g26, g27, g28, g29, g30, g31, g32, g33, g34])) :: bX11 a5 uq kq q_q []) H := hP
  have hD : va_D A ((a0, .inr (9, [.int 0, .int m_t.2.1, .int m_t.2.2, .ref a5, g9, g10, g11, g12, g13, g14, g15, g16, g17, g18, g19, g20, g21, g22, g23, g24, g25, g26, g27, g28, g29, g30, g31, g32, g33, g34])) :: bX11 a5 uq kq q_q []) := hD
  refine lv_istore (lv' := [(5, .int o15), (0, .ref a0), (1, .int k1), (2, .int k2), (3, .int k3), (4, .int k4)]) hx hb dX12_hungerFor_18 hl (by decide) rfl (fun ls hl => ?_)
  refine lv_iload hx hb dX12_hungerFor_20 (lv_at hl 0 rfl) ?_
  refine lv_if_le (tgt := 32) hx hb dX12_hungerFor_22 (by decide) (fun c22 => ?_) (fun c22 => ?_)
  · have h := (if_pos c22).symm.trans h
    refine lv_iconst (v := 0) hx hb dX12_hungerFor_32 (by decide) ?_
    refine lv_istore (lv' := [(6, .int 0), (5, .int o15), (0, .ref a0), (1, .int k1), (2, .int k2), (3, .int k3), (4, .int k4)]) hx hb dX12_hungerFor_33 hl (by decide) rfl (fun ls hl => ?_)
    have L35 : ∀ (n35 : Nat) (v35_l6 : Int32) (H : Heap) (locs : List Loc) (ls : Array Slot), f_X12_hungerFor_L35 k1 k2 k3 k4 m_t q_q n35 v35_l6 = some out → va_P (dC, dI) vwCl ((a0, .inr (9, [.int 0, .int m_t.2.1, .int m_t.2.2, .ref a5, g9, g10, g11, g12, g13, g14, g15, g16, g17, g18, g19, g20, g21, g22, g23, g24, g25, g26, g27, g28, g29, g30, g31, g32, g33, g34])) :: bX11 a5 uq kq q_q []) H → va_D A ((a0, .inr (9, [.int 0, .int m_t.2.1, .int m_t.2.2, .ref a5, g9, g10, g11, g12, g13, g14, g15, g16, g17, g18, g19, g20, g21, g22, g23, g24, g25, g26, g27, g28, g29, g30, g31, g32, g33, g34])) :: bX11 a5 uq kq q_q []) → va_S A s.heap H locs → lv_has ls 7 [(6, .int v35_l6), (0, .ref a0), (1, .int k1), (2, .int k2), (3, .int k3), (4, .int k4)] → W p l e (headSpec vfX12_hungerFor { frames := 2, cells := 0, slots := 0, locals := 47 }).room s m ([.ref a0, .int k1, .int k2, .int k3, .int k4]).toArray below meth c H locs 0 0 QQ (F0 m 35 ls []) := by
      intro n35
      induction n35 with
      | zero =>
        intro v35_l6 H locs ls h  _ _ _ _
        rw [f_X12_hungerFor_L35] at h
        cases h
      | succ n35 ih35 =>
        intro v35_l6 H locs ls h  hP hD hS hl
        rw [f_X12_hungerFor_L35] at h
        refine lv_iload hx hb dX12_hungerFor_35 (lv_at hl 0 rfl) ?_
        refine lv_bipush (v := 99) hx hb dX12_hungerFor_37 (by decide) ?_
        refine lv_icmp_gt (tgt := 74) hx hb dX12_hungerFor_39 (by decide) (fun c39 => ?_) (fun c39 => ?_)
        · have h := (if_pos c39).symm.trans h
          refine lv_aload_n hx hb dX12_hungerFor_74 rfl (lv_at hl 1 rfl) ?_
          refine lv_bipush (v := (-2)) hx hb dX12_hungerFor_75 (by decide) ?_
          obtain ⟨o77, eo77⟩ : ∃ o, o = f_X12_good (-2 : Int32) ((0 : Int32), m_t.2) := ⟨_, rfl⟩
          have h := nm_of h o77 eo77
          refine cl_i (wc := ([(a0, .inr (9, [.int 0, .int m_t.2.1, .int m_t.2.2, .ref a5, g9, g10, g11, g12, g13, g14, g15, g16, g17, g18, g19, g20, g21, g22, g23, g24, g25, g26, g27, g28, g29, g30, g31, g32, g33, g34]))])) (wr := (bX11 a5 uq kq q_q [])) (va_runV (As := [.int (-2)]) (rest := []) ⟨hx, hb, hml, hown, hts⟩ (kfX12_good l dC dI a0 (-2 : Int32) ((0 : Int32), m_t.2) (.ref a5) (g9) (g10) (g11) (g12) (g13) (g14) (g15) (g16) (g17) (g18) (g19) (g20) (g21) (g22) (g23) (g24) (g25) (g26) (g27) (g28) (g29) (g30) (g31) (g32) (g33) (g34) H.size o77 eo77.symm) (cwV 1 hts gfX12_hungerFor_2 rfl rfl rfl (by decide +kernel) ⟨(Nat.le_of_ble_eq_true rfl), (Nat.le_of_ble_eq_true rfl)⟩) (PV (hP.sub (ws' := ([(a0, .inr (9, [.int 0, .int m_t.2.1, .int m_t.2.2, .ref a5, g9, g10, g11, g12, g13, g14, g15, g16, g17, g18, g19, g20, g21, g22, g23, g24, g25, g26, g27, g28, g29, g30, g31, g32, g33, g34]))])) [0] rfl) (hK.sub (tys' := ([])) [] rfl) (hD.sub (ws' := ([(a0, .inr (9, [.int 0, .int m_t.2.1, .int m_t.2.2, .ref a5, g9, g10, g11, g12, g13, g14, g15, g16, g17, g18, g19, g20, g21, g22, g23, g24, g25, g26, g27, g28, g29, g30, g31, g32, g33, g34]))])) [0] (by decide) rfl) hN 0 rfl rfl) rfl rfl hl.1 rfl (lv_room (Nat.le_of_ble_eq_true rfl)) dX12_hungerFor_77 ⟨(Nat.le_of_ble_eq_true rfl), (Nat.le_of_ble_eq_true rfl)⟩) hP hD hK hS hA [0] [1, 2, 3, 4, 5, 6, 7, 8, 9, 10, 11, 12, 13, 14, 15] rfl rfl (by decide) (by decide) (fun r77 _ H locs hw hP hD _ hS => ?_)
          obtain rfl := hw
          have hP : va_P (dC, dI) vwCl (bX11 a5 uq kq q_q ([(a0, .inr (9, [.int o77.2.1, .int o77.2.2.1, .int o77.2.2.2, .ref a5, g9, g10, g11, g12, g13, g14, g15, g16, g17, g18, g19, g20, g21, g22, g23, g24, g25, g26, g27, g28, g29, g30, g31, g32, g33, g34]))])) H := hP
          have hD : va_D A (bX11 a5 uq kq q_q ([(a0, .inr (9, [.int o77.2.1, .int o77.2.2.1, .int o77.2.2.2, .ref a5, g9, g10, g11, g12, g13, g14, g15, g16, g17, g18, g19, g20, g21, g22, g23, g24, g25, g26, g27, g28, g29, g30, g31, g32, g33, g34]))])) := hD
          obtain rfl := Option.some.inj h
          have hP9 := hP.sub (ws' := ((a0, .inr (9, [.int o77.2.1, .int o77.2.2.1, .int o77.2.2.2, .ref a5, g9, g10, g11, g12, g13, g14, g15, g16, g17, g18, g19, g20, g21, g22, g23, g24, g25, g26, g27, g28, g29, g30, g31, g32, g33, g34])) :: bX11 a5 uq kq q_q [])) [15, 0, 1, 2, 3, 4, 5, 6, 7, 8, 9, 10, 11, 12, 13, 14] rfl
          have hD9 := hD.sub (ws' := ((a0, .inr (9, [.int o77.2.1, .int o77.2.2.1, .int o77.2.2.2, .ref a5, g9, g10, g11, g12, g13, g14, g15, g16, g17, g18, g19, g20, g21, g22, g23, g24, g25, g26, g27, g28, g29, g30, g31, g32, g33, g34])) :: bX11 a5 uq kq q_q [])) [15, 0, 1, 2, 3, 4, 5, 6, 7, 8, 9, 10, 11, 12, 13, 14] (by decide) rfl
          have hK9 := hK.sub (tys' := []) [] rfl
          rw [hQQ]
          exact W.iret (v := o77.1) hx hb hr (fun t ht hW => ⟨⟨o77.1, (), rfl, rfl, by rw [ht]; exact hP9, va_K.moved hW.alike hK9, hD9⟩, hS.F ht⟩) hS.2.2 dX12_hungerFor_80
        · have h := (if_neg c39).symm.trans h
          refine lv_aload_n hx hb dX12_hungerFor_42 rfl (lv_at hl 1 rfl) ?_
          refine va_get (D := (dC, dI)) (ci := 9) (v := .ref a5) (C := RX12) (T := TX12) (N := 30) hx hb hts ifX12_hungerFor_X12 hown hK hP 0 rfl rfl 3 (by decide) (hts (.fieldLink RX12 299 "HookPierModel" "pier" "LHookPierModel$Pier;") (List.mem_of_getElem? (i := 12) rfl)) (fun _ h9 => h9) rfl dX12_hungerFor_43 ?_
          refine lv_iload hx hb dX12_hungerFor_46 (lv_at hl 0 rfl) ?_
          refine lv_iload_n hx hb dX12_hungerFor_48 rfl (lv_at hl 2 rfl) ?_
          refine lv_iload_n hx hb dX12_hungerFor_49 rfl (lv_at hl 3 rfl) ?_
          refine lv_iload_n hx hb dX12_hungerFor_50 rfl (lv_at hl 4 rfl) ?_
          refine lv_iload hx hb dX12_hungerFor_51 (lv_at hl 5 rfl) ?_
          obtain ⟨o53, eo53, h⟩ := bd_of h
          refine cl_i (wc := (bX11 a5 uq kq q_q [])) (wr := ([(a0, .inr (9, [.int 0, .int m_t.2.1, .int m_t.2.2, .ref a5, g9, g10, g11, g12, g13, g14, g15, g16, g17, g18, g19, g20, g21, g22, g23, g24, g25, g26, g27, g28, g29, g30, g31, g32, g33, g34]))])) (va_runV (As := [.int v35_l6, .int k1, .int k2, .int k3, .int k4]) (rest := []) ⟨hx, hb, hml, hown, hts⟩ (kfX11_wishBy l dC dI a5 v35_l6 k1 k2 k3 k4 uq kq q_q H.size o53 eo53) (cwV 5 hts gfX12_hungerFor_3 rfl rfl rfl (by decide +kernel) ⟨(Nat.le_of_ble_eq_true rfl), (Nat.le_of_ble_eq_true rfl)⟩) (PV (hP.sub (ws' := (bX11 a5 uq kq q_q [])) [1, 2, 3, 4, 5, 6, 7, 8, 9, 10, 11, 12, 13, 14, 15] rfl) (hK.sub (tys' := (tX11 kq ([]))) [0, 1, 2, 3, 4, 5, 6, 7, 8, 9, 10, 11, 12, 13] rfl) (hD.sub (ws' := (bX11 a5 uq kq q_q [])) [1, 2, 3, 4, 5, 6, 7, 8, 9, 10, 11, 12, 13, 14, 15] (by decide) rfl) hN 0 rfl rfl) rfl rfl hl.1 rfl (lv_room (Nat.le_of_ble_eq_true rfl)) dX12_hungerFor_53 ⟨(Nat.le_of_ble_eq_true rfl), (Nat.le_of_ble_eq_true rfl)⟩) hP hD hK hS hA [1, 2, 3, 4, 5, 6, 7, 8, 9, 10, 11, 12, 13, 14, 15] [0] rfl rfl (by decide) (by decide) (fun r53 _ H locs hw hP hD _ hS => ?_)
          obtain rfl := hw.symm
          have hP : va_P (dC, dI) vwCl ((a0, .inr (9, [.int 0, .int m_t.2.1, .int m_t.2.2, .ref a5, g9, g10, g11, g12, g13, g14, g15, g16, g17, g18, g19, g20, g21, g22, g23, g24, g25, g26, g27, g28, g29, g30, g31, g32, g33, g34])) :: bX11 a5 uq kq q_q []) H := hP
          have hD : va_D A ((a0, .inr (9, [.int 0, .int m_t.2.1, .int m_t.2.2, .ref a5, g9, g10, g11, g12, g13, g14, g15, g16, g17, g18, g19, g20, g21, g22, g23, g24, g25, g26, g27, g28, g29, g30, g31, g32, g33, g34])) :: bX11 a5 uq kq q_q []) := hD
          refine lv_bipush (v := 50) hx hb dX12_hungerFor_56 (by decide) ?_
          refine lv_icmp_lt (tgt := 68) hx hb dX12_hungerFor_58 (by decide) (fun c58 => ?_) (fun c58 => ?_)
          · have h := (if_pos c58).symm.trans h
            refine lv_iinc (v := (v35_l6 + (1 : Int32))) (lv' := [(6, .int (v35_l6 + (1 : Int32))), (0, .ref a0), (1, .int k1), (2, .int k2), (3, .int k3), (4, .int k4)]) hx hb dX12_hungerFor_68 hl (k := 0) rfl rfl (by decide) rfl (fun ls hl => ?_)
            refine lv_goto (tgt := 35) hx hb dX12_hungerFor_71 (by decide) ?_
            exact ih35 (v35_l6 + (1 : Int32)) H _ ls h  hP hD hS (lv_sub hl [0, 1, 2, 3, 4, 5] rfl)
          · have h := (if_neg c58).symm.trans h
            refine lv_aload_n hx hb dX12_hungerFor_61 rfl (lv_at hl 1 rfl) ?_
            refine lv_iload hx hb dX12_hungerFor_62 (lv_at hl 0 rfl) ?_
            obtain ⟨o64, eo64⟩ : ∃ o, o = f_X12_good v35_l6 ((0 : Int32), m_t.2) := ⟨_, rfl⟩
            have h := nm_of h o64 eo64
            refine cl_i (wc := ([(a0, .inr (9, [.int 0, .int m_t.2.1, .int m_t.2.2, .ref a5, g9, g10, g11, g12, g13, g14, g15, g16, g17, g18, g19, g20, g21, g22, g23, g24, g25, g26, g27, g28, g29, g30, g31, g32, g33, g34]))])) (wr := (bX11 a5 uq kq q_q [])) (va_runV (As := [.int v35_l6]) (rest := []) ⟨hx, hb, hml, hown, hts⟩ (kfX12_good l dC dI a0 v35_l6 ((0 : Int32), m_t.2) (.ref a5) (g9) (g10) (g11) (g12) (g13) (g14) (g15) (g16) (g17) (g18) (g19) (g20) (g21) (g22) (g23) (g24) (g25) (g26) (g27) (g28) (g29) (g30) (g31) (g32) (g33) (g34) H.size o64 eo64.symm) (cwV 1 hts gfX12_hungerFor_2 rfl rfl rfl (by decide +kernel) ⟨(Nat.le_of_ble_eq_true rfl), (Nat.le_of_ble_eq_true rfl)⟩) (PV (hP.sub (ws' := ([(a0, .inr (9, [.int 0, .int m_t.2.1, .int m_t.2.2, .ref a5, g9, g10, g11, g12, g13, g14, g15, g16, g17, g18, g19, g20, g21, g22, g23, g24, g25, g26, g27, g28, g29, g30, g31, g32, g33, g34]))])) [0] rfl) (hK.sub (tys' := ([])) [] rfl) (hD.sub (ws' := ([(a0, .inr (9, [.int 0, .int m_t.2.1, .int m_t.2.2, .ref a5, g9, g10, g11, g12, g13, g14, g15, g16, g17, g18, g19, g20, g21, g22, g23, g24, g25, g26, g27, g28, g29, g30, g31, g32, g33, g34]))])) [0] (by decide) rfl) hN 0 rfl rfl) rfl rfl hl.1 rfl (lv_room (Nat.le_of_ble_eq_true rfl)) dX12_hungerFor_64 ⟨(Nat.le_of_ble_eq_true rfl), (Nat.le_of_ble_eq_true rfl)⟩) hP hD hK hS hA [0] [1, 2, 3, 4, 5, 6, 7, 8, 9, 10, 11, 12, 13, 14, 15] rfl rfl (by decide) (by decide) (fun r64 _ H locs hw hP hD _ hS => ?_)
            obtain rfl := hw
            have hP : va_P (dC, dI) vwCl (bX11 a5 uq kq q_q ([(a0, .inr (9, [.int o64.2.1, .int o64.2.2.1, .int o64.2.2.2, .ref a5, g9, g10, g11, g12, g13, g14, g15, g16, g17, g18, g19, g20, g21, g22, g23, g24, g25, g26, g27, g28, g29, g30, g31, g32, g33, g34]))])) H := hP
            have hD : va_D A (bX11 a5 uq kq q_q ([(a0, .inr (9, [.int o64.2.1, .int o64.2.2.1, .int o64.2.2.2, .ref a5, g9, g10, g11, g12, g13, g14, g15, g16, g17, g18, g19, g20, g21, g22, g23, g24, g25, g26, g27, g28, g29, g30, g31, g32, g33, g34]))])) := hD
            obtain rfl := Option.some.inj h
            have hP9 := hP.sub (ws' := ((a0, .inr (9, [.int o64.2.1, .int o64.2.2.1, .int o64.2.2.2, .ref a5, g9, g10, g11, g12, g13, g14, g15, g16, g17, g18, g19, g20, g21, g22, g23, g24, g25, g26, g27, g28, g29, g30, g31, g32, g33, g34])) :: bX11 a5 uq kq q_q [])) [15, 0, 1, 2, 3, 4, 5, 6, 7, 8, 9, 10, 11, 12, 13, 14] rfl
            have hD9 := hD.sub (ws' := ((a0, .inr (9, [.int o64.2.1, .int o64.2.2.1, .int o64.2.2.2, .ref a5, g9, g10, g11, g12, g13, g14, g15, g16, g17, g18, g19, g20, g21, g22, g23, g24, g25, g26, g27, g28, g29, g30, g31, g32, g33, g34])) :: bX11 a5 uq kq q_q [])) [15, 0, 1, 2, 3, 4, 5, 6, 7, 8, 9, 10, 11, 12, 13, 14] (by decide) rfl
            have hK9 := hK.sub (tys' := []) [] rfl
            rw [hQQ]
            exact W.iret (v := o64.1) hx hb hr (fun t ht hW => ⟨⟨o64.1, (), rfl, rfl, by rw [ht]; exact hP9, va_K.moved hW.alike hK9, hD9⟩, hS.F ht⟩) hS.2.2 dX12_hungerFor_67
    exact L35 FU (0 : Int32) H _ ls h  hP hD hS (lv_sub hl [0, 2, 3, 4, 5, 6] rfl)
  · have h := (if_neg c22).symm.trans h
    refine lv_aload_n hx hb dX12_hungerFor_25 rfl (lv_at hl 1 rfl) ?_
    refine lv_iload hx hb dX12_hungerFor_26 (lv_at hl 0 rfl) ?_
    obtain ⟨o28, eo28⟩ : ∃ o, o = f_X12_refused o15 ((0 : Int32), m_t.2) := ⟨_, rfl⟩
    have h := nm_of h o28 eo28
    refine cl_i (wc := ([(a0, .inr (9, [.int 0, .int m_t.2.1, .int m_t.2.2, .ref a5, g9, g10, g11, g12, g13, g14, g15, g16, g17, g18, g19, g20, g21, g22, g23, g24, g25, g26, g27, g28, g29, g30, g31, g32, g33, g34]))])) (wr := (bX11 a5 uq kq q_q [])) (va_runV (As := [.int o15]) (rest := []) ⟨hx, hb, hml, hown, hts⟩ (kfX12_refused l dC dI a0 o15 ((0 : Int32), m_t.2) (.ref a5) (g9) (g10) (g11) (g12) (g13) (g14) (g15) (g16) (g17) (g18) (g19) (g20) (g21) (g22) (g23) (g24) (g25) (g26) (g27) (g28) (g29) (g30) (g31) (g32) (g33) (g34) H.size o28 eo28.symm) (cwV 1 hts gfX12_hungerFor_4 rfl rfl rfl (by decide +kernel) ⟨(Nat.le_of_ble_eq_true rfl), (Nat.le_of_ble_eq_true rfl)⟩) (PV (hP.sub (ws' := ([(a0, .inr (9, [.int 0, .int m_t.2.1, .int m_t.2.2, .ref a5, g9, g10, g11, g12, g13, g14, g15, g16, g17, g18, g19, g20, g21, g22, g23, g24, g25, g26, g27, g28, g29, g30, g31, g32, g33, g34]))])) [0] rfl) (hK.sub (tys' := ([])) [] rfl) (hD.sub (ws' := ([(a0, .inr (9, [.int 0, .int m_t.2.1, .int m_t.2.2, .ref a5, g9, g10, g11, g12, g13, g14, g15, g16, g17, g18, g19, g20, g21, g22, g23, g24, g25, g26, g27, g28, g29, g30, g31, g32, g33, g34]))])) [0] (by decide) rfl) hN 0 rfl rfl) rfl rfl hl.1 rfl (lv_room (Nat.le_of_ble_eq_true rfl)) dX12_hungerFor_28 ⟨(Nat.le_of_ble_eq_true rfl), (Nat.le_of_ble_eq_true rfl)⟩) hP hD hK hS hA [0] [1, 2, 3, 4, 5, 6, 7, 8, 9, 10, 11, 12, 13, 14, 15] rfl rfl (by decide) (by decide) (fun r28 _ H locs hw hP hD _ hS => ?_)
    obtain rfl := hw
    have hP : va_P (dC, dI) vwCl (bX11 a5 uq kq q_q ([(a0, .inr (9, [.int o28.1, .int o28.2.1, .int o28.2.2, .ref a5, g9, g10, g11, g12, g13, g14, g15, g16, g17, g18, g19, g20, g21, g22, g23, g24, g25, g26, g27, g28, g29, g30, g31, g32, g33, g34]))])) H := hP
    have hD : va_D A (bX11 a5 uq kq q_q ([(a0, .inr (9, [.int o28.1, .int o28.2.1, .int o28.2.2, .ref a5, g9, g10, g11, g12, g13, g14, g15, g16, g17, g18, g19, g20, g21, g22, g23, g24, g25, g26, g27, g28, g29, g30, g31, g32, g33, g34]))])) := hD
    obtain rfl := Option.some.inj h
    have hP9 := hP.sub (ws' := ((a0, .inr (9, [.int o28.1, .int o28.2.1, .int o28.2.2, .ref a5, g9, g10, g11, g12, g13, g14, g15, g16, g17, g18, g19, g20, g21, g22, g23, g24, g25, g26, g27, g28, g29, g30, g31, g32, g33, g34])) :: bX11 a5 uq kq q_q [])) [15, 0, 1, 2, 3, 4, 5, 6, 7, 8, 9, 10, 11, 12, 13, 14] rfl
    have hD9 := hD.sub (ws' := ((a0, .inr (9, [.int o28.1, .int o28.2.1, .int o28.2.2, .ref a5, g9, g10, g11, g12, g13, g14, g15, g16, g17, g18, g19, g20, g21, g22, g23, g24, g25, g26, g27, g28, g29, g30, g31, g32, g33, g34])) :: bX11 a5 uq kq q_q [])) [15, 0, 1, 2, 3, 4, 5, 6, 7, 8, 9, 10, 11, 12, 13, 14] (by decide) rfl
    have hK9 := hK.sub (tys' := []) [] rfl
    rw [hQQ]
    exact W.iret (v := (-1 : Int32)) hx hb hr (fun t ht hW => ⟨⟨(-1 : Int32), (), rfl, rfl, by rw [ht]; exact hP9, va_K.moved hW.alike hK9, hD9⟩, hS.F ht⟩) hS.2.2 dX12_hungerFor_31
