theorem dX12_refusesQuestion_0 : decode cX12_refusesQuestion 0 = .ok (.iload_n 1, 1) := by decide +kernel
theorem dX12_refusesQuestion_1 : decode cX12_refusesQuestion 1 = .ok (.ifCond .eq 38, 3) := by decide +kernel
theorem dX12_refusesQuestion_10 : decode cX12_refusesQuestion 10 = .ok (.getfield 143, 3) := by decide +kernel
theorem dX12_refusesQuestion_13 : decode cX12_refusesQuestion 13 = .ok (.iconst 1, 1) := by decide +kernel
theorem dX12_refusesQuestion_14 : decode cX12_refusesQuestion 14 = .ok (.isub, 1) := by decide +kernel
theorem dX12_refusesQuestion_15 : decode cX12_refusesQuestion 15 = .ok (.invokestatic 115, 3) := by decide +kernel
theorem dX12_refusesQuestion_18 : decode cX12_refusesQuestion 18 = .ok (.ifCond .eq 21, 3) := by decide +kernel
theorem dX12_refusesQuestion_21 : decode cX12_refusesQuestion 21 = .ok (.iload 4, 2) := by decide +kernel
theorem dX12_refusesQuestion_23 : decode cX12_refusesQuestion 23 = .ok (.iconst 0, 1) := by decide +kernel
theorem dX12_refusesQuestion_24 : decode cX12_refusesQuestion 24 = .ok (.aload_n 0, 1) := by decide +kernel
theorem dX12_refusesQuestion_25 : decode cX12_refusesQuestion 25 = .ok (.getfield 299, 3) := by decide +kernel
theorem dX12_refusesQuestion_28 : decode cX12_refusesQuestion 28 = .ok (.getfield 175, 3) := by decide +kernel
theorem dX12_refusesQuestion_31 : decode cX12_refusesQuestion 31 = .ok (.iconst 1, 1) := by decide +kernel
theorem dX12_refusesQuestion_32 : decode cX12_refusesQuestion 32 = .ok (.isub, 1) := by decide +kernel
theorem dX12_refusesQuestion_33 : decode cX12_refusesQuestion 33 = .ok (.invokestatic 115, 3) := by decide +kernel
theorem dX12_refusesQuestion_36 : decode cX12_refusesQuestion 36 = .ok (.ifCond .ne 5, 3) := by decide +kernel
theorem dX12_refusesQuestion_39 : decode cX12_refusesQuestion 39 = .ok (.iconst 1, 1) := by decide +kernel
theorem dX12_refusesQuestion_4 : decode cX12_refusesQuestion 4 = .ok (.iload_n 2, 1) := by decide +kernel
theorem dX12_refusesQuestion_40 : decode cX12_refusesQuestion 40 = .ok (.ireturn, 1) := by decide +kernel
theorem dX12_refusesQuestion_41 : decode cX12_refusesQuestion 41 = .ok (.iload_n 3, 1) := by decide +kernel
theorem dX12_refusesQuestion_42 : decode cX12_refusesQuestion 42 = .ok (.iconst 1, 1) := by decide +kernel
theorem dX12_refusesQuestion_43 : decode cX12_refusesQuestion 43 = .ok (.aload_n 0, 1) := by decide +kernel
theorem dX12_refusesQuestion_44 : decode cX12_refusesQuestion 44 = .ok (.getfield 299, 3) := by decide +kernel
theorem dX12_refusesQuestion_47 : decode cX12_refusesQuestion 47 = .ok (.getfield 207, 3) := by decide +kernel
theorem dX12_refusesQuestion_5 : decode cX12_refusesQuestion 5 = .ok (.iconst 0, 1) := by decide +kernel
theorem dX12_refusesQuestion_50 : decode cX12_refusesQuestion 50 = .ok (.invokestatic 115, 3) := by decide +kernel
theorem dX12_refusesQuestion_53 : decode cX12_refusesQuestion 53 = .ok (.ifCond .eq 7, 3) := by decide +kernel
theorem dX12_refusesQuestion_56 : decode cX12_refusesQuestion 56 = .ok (.iconst 0, 1) := by decide +kernel
theorem dX12_refusesQuestion_57 : decode cX12_refusesQuestion 57 = .ok (.goto 4, 3) := by decide +kernel
theorem dX12_refusesQuestion_6 : decode cX12_refusesQuestion 6 = .ok (.aload_n 0, 1) := by decide +kernel
theorem dX12_refusesQuestion_60 : decode cX12_refusesQuestion 60 = .ok (.iconst 2, 1) := by decide +kernel
theorem dX12_refusesQuestion_61 : decode cX12_refusesQuestion 61 = .ok (.ireturn, 1) := by decide +kernel
theorem dX12_refusesQuestion_7 : decode cX12_refusesQuestion 7 = .ok (.getfield 299, 3) := by decide +kernel
def vfX12_refusesQuestion : List Cond := List.cons (.code yX12_refusesQuestion cX12_refusesQuestion 5 (some .int)) (apW [.fieldLink RX12 299 "HookPierModel" "pier" "LHookPierModel$Pier;", .methodLink RX12 115 yX12_in, .static yX12_in, .initialized RX12] (apW wsX120 (apW wsX110 (vfX12_in))))
theorem ifX12_refusesQuestion_X12 : ∀ w ∈ wsX120, w ∈ vfX12_refusesQuestion := fun _ h => (List.mem_cons_of_mem _ (List.mem_append_right _ (List.mem_append_left _ h)))
theorem ifX12_refusesQuestion_X11 : ∀ w ∈ wsX110, w ∈ vfX12_refusesQuestion := fun _ h => (List.mem_cons_of_mem _ (List.mem_append_right _ (List.mem_append_right _ (List.mem_append_left _ h))))
theorem qfX12_refusesQuestion : Good vfX12_refusesQuestion := gd_cons (by decide +kernel) (gd_app (gd_dec (by decide +kernel) : Good [.fieldLink RX12 299 "HookPierModel" "pier" "LHookPierModel$Pier;", .methodLink RX12 115 yX12_in, .static yX12_in, .initialized RX12]) (gd_app qsX12 (gd_app qsX11 qfX12_in)))
theorem gfX12_refusesQuestion_0 : GoodIn vfX12_refusesQuestion (va_wsS RX12 115 yX12_in vfX12_in) := goodIn_app (goodIn_r [.methodLink RX12 115 yX12_in, .static yX12_in, .initialized RX12] [2, 3, 4] rfl (by decide +kernel)) (goodIn_m (fun _ h => (List.mem_cons_of_mem _ (List.mem_append_right _ (List.mem_append_right _ (List.mem_append_right _ h))))) qfX12_in)
set_option maxHeartbeats 2000000 in
set_option maxRecDepth 100000 in
theorem kfX12_refusesQuestion (l : Launch) (dC : Nat → ClassId) (dI : Nat → Nat → Nat) (a0 : Nat) (k1 : Int32) (k2 : Int32) (k3 : Int32) (k4 : Int32) (a5 : Nat) (uq : Nat → Nat) (kq : Nat → ClassId) (g8 : Value) (g9 : Value) (g10 : Value) (g11 : Value) (g12 : Value) (g13 : Value) (g14 : Value) (g15 : Value) (g16 : Value) (g17 : Value) (g18 : Value) (g19 : Value) (g20 : Value) (g21 : Value) (g22 : Value) (g23 : Value) (g24 : Value) (g25 : Value) (g26 : Value) (g27 : Value) (g28 : Value) (g29 : Value) (g30 : Value) (g31 : Value) (g32 : Value) (g33 : Value) (g34 : Value) (g35 : Value) (g36 : Value) (q_q : TX11_q) (sz : Nat) (out : Int32) (h : f_X12_refusesQuestion k1 k2 k3 k4 q_q = out) : Met l yX12_refusesQuestion vfX12_refusesQuestion ({ frames := 1, cells := 0, slots := 0, locals := 22 }) (PC (dC, dI) [.ref a0, .int k1, .int k2, .int k3, .int k4] sz ((a0, .inr (9, [g8, g9, g10, .ref a5, g11, g12, g13, g14, g15, g16, g17, g18, g19, g20, g21, g22, g23, g24, g25, g26, g27, g28, g29, g30, g31, g32, g33, g34, g35, g36])) :: bX11 a5 uq kq q_q []) (tX11 kq ([]))) (va_Qi (S := Unit) (fun (r : Int32) _ => r = out) (fun _ t => BC (dC, dI) (va_A ((a0, .inr (9, [g8, g9, g10, .ref a5, g11, g12, g13, g14, g15, g16, g17, g18, g19, g20, g21, g22, g23, g24, g25, g26, g27, g28, g29, g30, g31, g32, g33, g34, g35, g36])) :: bX11 a5 uq kq q_q []) sz) ((a0, .inr (9, [g8, g9, g10, .ref a5, g11, g12, g13, g14, g15, g16, g17, g18, g19, g20, g21, g22, g23, g24, g25, g26, g27, g28, g29, g30, g31, g32, g33, g34, g35, g36])) :: bX11 a5 uq kq q_q []) [] t) (va_A ((a0, .inr (9, [g8, g9, g10, .ref a5, g11, g12, g13, g14, g15, g16, g17, g18, g19, g20, g21, g22, g23, g24, g25, g26, g27, g28, g29, g30, g31, g32, g33, g34, g35, g36])) :: bX11 a5 uq kq q_q []) sz)) 0 0 (va_A ((a0, .inr (9, [g8, g9, g10, .ref a5, g11, g12, g13, g14, g15, g16, g17, g18, g19, g20, g21, g22, g23, g24, g25, g26, g27, g28, g29, g30, g31, g32, g33, g34, g35, g36])) :: bX11 a5 uq kq q_q []) sz) := by
  refine Met.ofW (cc := cX12_refusesQuestion) (maxL := 5) (ret := (some .int)) (by decide) rfl ?_
  intro p e s m args below meth c s₁ B0 hml hv
  obtain ⟨rfl, hsz, hP, hK, hD0, hN⟩ := hv
  have hx := B0.exec
  have hb := B0.bytes
  have hr := B0.returns
  have hts := atoms_spec (ws := vfX12_refusesQuestion) B0.pre
  have hown : s.vm.findClass RX12 = some m.cls := findClass_of_methodNamed B0.named
  have hlocks := B0.notSynchronized
  subst hsz
  have hD := hD0.self (sz := s.heap.size)
  generalize hAe : va_A ((a0, .inr (9, [g8, g9, g10, .ref a5, g11, g12, g13, g14, g15, g16, g17, g18, g19, g20, g21, g22, g23, g24, g25, g26, g27, g28, g29, g30, g31, g32, g33, g34, g35, g36])) :: bX11 a5 uq kq q_q []) s.heap.size = A at hD ⊢
  have hA : ∀ q : Nat, s.heap.size ≤ q → A q := fun q h => by rw [← hAe]; exact Or.inr h
  have hS : va_S A s.heap s.heap [] := va_S.rf
  have hP : va_P (dC, dI) vwCl ((a0, .inr (9, [g8, g9, g10, .ref a5, g11, g12, g13, g14, g15, g16, g17, g18, g19, g20, g21, g22, g23, g24, g25, g26, g27, g28, g29, g30, g31, g32, g33, g34, g35, g36])) :: bX11 a5 uq kq q_q []) s.heap := hP
  have hl := lv_entry ([.ref a0, .int k1, .int k2, .int k3, .int k4]) (n := 5) (Nat.le_of_ble_eq_true rfl)
  rw [lg_entry_eq]
  generalize (lg_sl ([.ref a0, .int k1, .int k2, .int k3, .int k4]) ++ List.replicate (5 - (lg_sl ([.ref a0, .int k1, .int k2, .int k3, .int k4])).length) Slot.unset).toArray = ls at hl ⊢
  have hl : lv_has ls 5 [(0, .ref a0), (1, .int k1), (2, .int k2), (3, .int k3), (4, .int k4)] := hl
  refine W_q (fun QQ hQQ => ?_)
  rw [f_X12_refusesQuestion] at h
  refine lv_iload_n hx hb dX12_refusesQuestion_0 rfl (lv_at hl 1 rfl) ?_
  refine lv_if_eq (tgt := 39) hx hb dX12_refusesQuestion_1 (by decide) (fun c1 => ?_) (fun c1 => ?_)
  · have h := (if_pos c1).symm.trans h
    refine lv_iconst (v := 1) hx hb dX12_refusesQuestion_39 (by decide) ?_
    obtain rfl := h
    have hP9 := hP.sub (ws' := ((a0, .inr (9, [g8, g9, g10, .ref a5, g11, g12, g13, g14, g15, g16, g17, g18, g19, g20, g21, g22, g23, g24, g25, g26, g27, g28, g29, g30, g31, g32, g33, g34, g35, g36])) :: bX11 a5 uq kq q_q [])) [0, 1, 2, 3, 4, 5, 6, 7, 8, 9, 10, 11, 12, 13, 14, 15] rfl
    have hD9 := hD.sub (ws' := ((a0, .inr (9, [g8, g9, g10, .ref a5, g11, g12, g13, g14, g15, g16, g17, g18, g19, g20, g21, g22, g23, g24, g25, g26, g27, g28, g29, g30, g31, g32, g33, g34, g35, g36])) :: bX11 a5 uq kq q_q [])) [0, 1, 2, 3, 4, 5, 6, 7, 8, 9, 10, 11, 12, 13, 14, 15] (by decide) rfl
    have hK9 := hK.sub (tys' := []) [] rfl
    rw [hQQ]
    exact W.iret (v := (1 : Int32)) hx hb hr (fun t ht hW => ⟨⟨(1 : Int32), (), rfl, rfl, by rw [ht]; exact hP9, va_K.moved hW.alike hK9, hD9⟩, hS.F ht⟩) hS.2.2 dX12_refusesQuestion_40
  · have h := (if_neg c1).symm.trans h
    refine lv_iload_n hx hb dX12_refusesQuestion_4 rfl (lv_at hl 2 rfl) ?_
    refine lv_iconst (v := 0) hx hb dX12_refusesQuestion_5 (by decide) ?_
    refine lv_aload_n hx hb dX12_refusesQuestion_6 rfl (lv_at hl 0 rfl) ?_
    refine va_get (D := (dC, dI)) (ci := 9) (v := .ref a5) (C := RX12) (T := TX12) (N := 30) hx hb hts ifX12_refusesQuestion_X12 hown hK hP 0 rfl rfl 3 (by decide) (hts (.fieldLink RX12 299 "HookPierModel" "pier" "LHookPierModel$Pier;") (List.mem_of_getElem? (i := 1) rfl)) (fun _ h9 => h9) rfl dX12_refusesQuestion_7 ?_
    refine va_getN (D := (dC, dI)) (ci := 8) (v := .int q_q.1) (C := RX11) (T := TX11) (N := 24) hx hb hts ifX12_refusesQuestion_X11 hown hK hP 1 rfl rfl 0 (by decide) (va_Nw.use rfl (hN.1 (.fieldLinkNest RX12 143 "HookPierModel$Pier" "spots" "I" "HookPierModel") (List.mem_of_getElem? (i := 22) rfl))) (fun _ h9 => h9) rfl dX12_refusesQuestion_10 ?_
    refine lv_iconst (v := 1) hx hb dX12_refusesQuestion_13 (by decide) ?_
    refine lv_isub hx hb dX12_refusesQuestion_14 ?_
    obtain ⟨o15, eo15⟩ : ∃ o, o = f_X12_in k2 (0 : Int32) (q_q.1 - (1 : Int32)) := ⟨_, rfl⟩
    have h := nm_of h o15 eo15
    refine cl_i (wc := []) (wr := ((a0, .inr (9, [g8, g9, g10, .ref a5, g11, g12, g13, g14, g15, g16, g17, g18, g19, g20, g21, g22, g23, g24, g25, g26, g27, g28, g29, g30, g31, g32, g33, g34, g35, g36])) :: bX11 a5 uq kq q_q [])) (va_runS (As := [.int k2, .int 0, .int (q_q.1 - (1 : Int32))]) (rest := []) ⟨hx, hb, hml, hown, hts⟩ (kfX12_in l dC dI k2 (0 : Int32) (q_q.1 - (1 : Int32)) s.heap.size o15 eo15.symm) (va_cwS 3 hts gfX12_refusesQuestion_0 rfl rfl rfl (by decide +kernel) ⟨(Nat.le_of_ble_eq_true rfl), (Nat.le_of_ble_eq_true rfl)⟩) (PS (hP.sub (ws' := []) [] rfl) (hK.sub (tys' := ([])) [] rfl) (hD.sub (ws' := []) [] (by decide) rfl) hN) rfl rfl hl.1 rfl (lv_room (Nat.le_of_ble_eq_true rfl)) dX12_refusesQuestion_15 ⟨(Nat.le_of_ble_eq_true rfl), (Nat.le_of_ble_eq_true rfl)⟩) hP hD hK hS hA [] [0, 1, 2, 3, 4, 5, 6, 7, 8, 9, 10, 11, 12, 13, 14, 15] rfl rfl (by decide) (by decide) (fun r15 _ H locs hw hP hD _ hS => ?_)
    obtain ⟨hw, br15⟩ := hw
    obtain rfl := hw.symm
    have hP : va_P (dC, dI) vwCl ((a0, .inr (9, [g8, g9, g10, .ref a5, g11, g12, g13, g14, g15, g16, g17, g18, g19, g20, g21, g22, g23, g24, g25, g26, g27, g28, g29, g30, g31, g32, g33, g34, g35, g36])) :: bX11 a5 uq kq q_q []) H := hP
    have hD : va_D A ((a0, .inr (9, [g8, g9, g10, .ref a5, g11, g12, g13, g14, g15, g16, g17, g18, g19, g20, g21, g22, g23, g24, g25, g26, g27, g28, g29, g30, g31, g32, g33, g34, g35, g36])) :: bX11 a5 uq kq q_q []) := hD
    refine lv_if_eq (tgt := 39) hx hb dX12_refusesQuestion_18 (by decide) (fun c18 => ?_) (fun c18 => ?_)
    · have h := (if_pos c18).symm.trans h
      refine lv_iconst (v := 1) hx hb dX12_refusesQuestion_39 (by decide) ?_
      obtain rfl := h
      have hP9 := hP.sub (ws' := ((a0, .inr (9, [g8, g9, g10, .ref a5, g11, g12, g13, g14, g15, g16, g17, g18, g19, g20, g21, g22, g23, g24, g25, g26, g27, g28, g29, g30, g31, g32, g33, g34, g35, g36])) :: bX11 a5 uq kq q_q [])) [0, 1, 2, 3, 4, 5, 6, 7, 8, 9, 10, 11, 12, 13, 14, 15] rfl
      have hD9 := hD.sub (ws' := ((a0, .inr (9, [g8, g9, g10, .ref a5, g11, g12, g13, g14, g15, g16, g17, g18, g19, g20, g21, g22, g23, g24, g25, g26, g27, g28, g29, g30, g31, g32, g33, g34, g35, g36])) :: bX11 a5 uq kq q_q [])) [0, 1, 2, 3, 4, 5, 6, 7, 8, 9, 10, 11, 12, 13, 14, 15] (by decide) rfl
      have hK9 := hK.sub (tys' := []) [] rfl
      rw [hQQ]
      exact W.iret (v := (1 : Int32)) hx hb hr (fun t ht hW => ⟨⟨(1 : Int32), (), rfl, rfl, by rw [ht]; exact hP9, va_K.moved hW.alike hK9, hD9⟩, hS.F ht⟩) hS.2.2 dX12_refusesQuestion_40
    · have h := (if_neg c18).symm.trans h
      refine lv_iload hx hb dX12_refusesQuestion_21 (lv_at hl 4 rfl) ?_
      refine lv_iconst (v := 0) hx hb dX12_refusesQuestion_23 (by decide) ?_
      refine lv_aload_n hx hb dX12_refusesQuestion_24 rfl (lv_at hl 0 rfl) ?_
      refine va_get (D := (dC, dI)) (ci := 9) (v := .ref a5) (C := RX12) (T := TX12) (N := 30) hx hb hts ifX12_refusesQuestion_X12 hown hK hP 0 rfl rfl 3 (by decide) (hts (.fieldLink RX12 299 "HookPierModel" "pier" "LHookPierModel$Pier;") (List.mem_of_getElem? (i := 1) rfl)) (fun _ h9 => h9) rfl dX12_refusesQuestion_25 ?_
      refine va_getN (D := (dC, dI)) (ci := 8) (v := .int q_q.2.2.2.2.1) (C := RX11) (T := TX11) (N := 24) hx hb hts ifX12_refusesQuestion_X11 hown hK hP 1 rfl rfl 4 (by decide) (va_Nw.use rfl (hN.1 (.fieldLinkNest RX12 175 "HookPierModel$Pier" "baits" "I" "HookPierModel") (List.mem_of_getElem? (i := 26) rfl))) (fun _ h9 => h9) rfl dX12_refusesQuestion_28 ?_
      refine lv_iconst (v := 1) hx hb dX12_refusesQuestion_31 (by decide) ?_
      refine lv_isub hx hb dX12_refusesQuestion_32 ?_
      obtain ⟨o33, eo33⟩ : ∃ o, o = f_X12_in k4 (0 : Int32) (q_q.2.2.2.2.1 - (1 : Int32)) := ⟨_, rfl⟩
      have h := nm_of h o33 eo33
      refine cl_i (wc := []) (wr := ((a0, .inr (9, [g8, g9, g10, .ref a5, g11, g12, g13, g14, g15, g16, g17, g18, g19, g20, g21, g22, g23, g24, g25, g26, g27, g28, g29, g30, g31, g32, g33, g34, g35, g36])) :: bX11 a5 uq kq q_q [])) (va_runS (As := [.int k4, .int 0, .int (q_q.2.2.2.2.1 - (1 : Int32))]) (rest := []) ⟨hx, hb, hml, hown, hts⟩ (kfX12_in l dC dI k4 (0 : Int32) (q_q.2.2.2.2.1 - (1 : Int32)) H.size o33 eo33.symm) (va_cwS 3 hts gfX12_refusesQuestion_0 rfl rfl rfl (by decide +kernel) ⟨(Nat.le_of_ble_eq_true rfl), (Nat.le_of_ble_eq_true rfl)⟩) (PS (hP.sub (ws' := []) [] rfl) (hK.sub (tys' := ([])) [] rfl) (hD.sub (ws' := []) [] (by decide) rfl) hN) rfl rfl hl.1 rfl (lv_room (Nat.le_of_ble_eq_true rfl)) dX12_refusesQuestion_33 ⟨(Nat.le_of_ble_eq_true rfl), (Nat.le_of_ble_eq_true rfl)⟩) hP hD hK hS hA [] [0, 1, 2, 3, 4, 5, 6, 7, 8, 9, 10, 11, 12, 13, 14, 15] rfl rfl (by decide) (by decide) (fun r33 _ H locs hw hP hD _ hS => ?_)
      obtain ⟨hw, br33⟩ := hw
      obtain rfl := hw.symm
      have hP : va_P (dC, dI) vwCl ((a0, .inr (9, [g8, g9, g10, .ref a5, g11, g12, g13, g14, g15, g16, g17, g18, g19, g20, g21, g22, g23, g24, g25, g26, g27, g28, g29, g30, g31, g32, g33, g34, g35, g36])) :: bX11 a5 uq kq q_q []) H := hP
      have hD : va_D A ((a0, .inr (9, [g8, g9, g10, .ref a5, g11, g12, g13, g14, g15, g16, g17, g18, g19, g20, g21, g22, g23, g24, g25, g26, g27, g28, g29, g30, g31, g32, g33, g34, g35, g36])) :: bX11 a5 uq kq q_q []) := hD
      refine lv_if_ne (tgt := 41) hx hb dX12_refusesQuestion_36 (by decide) (fun c36 => ?_) (fun c36 => ?_)
      · have h := (if_neg c36).symm.trans h
        refine lv_iload_n hx hb dX12_refusesQuestion_41 rfl (lv_at hl 3 rfl) ?_
        refine lv_iconst (v := 1) hx hb dX12_refusesQuestion_42 (by decide) ?_
        refine lv_aload_n hx hb dX12_refusesQuestion_43 rfl (lv_at hl 0 rfl) ?_
        refine va_get (D := (dC, dI)) (ci := 9) (v := .ref a5) (C := RX12) (T := TX12) (N := 30) hx hb hts ifX12_refusesQuestion_X12 hown hK hP 0 rfl rfl 3 (by decide) (hts (.fieldLink RX12 299 "HookPierModel" "pier" "LHookPierModel$Pier;") (List.mem_of_getElem? (i := 1) rfl)) (fun _ h9 => h9) rfl dX12_refusesQuestion_44 ?_
        refine va_getN (D := (dC, dI)) (ci := 8) (v := .int q_q.2.1) (C := RX11) (T := TX11) (N := 24) hx hb hts ifX12_refusesQuestion_X11 hown hK hP 1 rfl rfl 1 (by decide) (va_Nw.use rfl (hN.1 (.fieldLinkNest RX12 207 "HookPierModel$Pier" "deep" "I" "HookPierModel") (List.mem_of_getElem? (i := 23) rfl))) (fun _ h9 => h9) rfl dX12_refusesQuestion_47 ?_
        obtain ⟨o50, eo50⟩ : ∃ o, o = f_X12_in k3 (1 : Int32) q_q.2.1 := ⟨_, rfl⟩
        have h := nm_of h o50 eo50
        refine cl_i (wc := []) (wr := ((a0, .inr (9, [g8, g9, g10, .ref a5, g11, g12, g13, g14, g15, g16, g17, g18, g19, g20, g21, g22, g23, g24, g25, g26, g27, g28, g29, g30, g31, g32, g33, g34, g35, g36])) :: bX11 a5 uq kq q_q [])) (va_runS (As := [.int k3, .int 1, .int q_q.2.1]) (rest := []) ⟨hx, hb, hml, hown, hts⟩ (kfX12_in l dC dI k3 (1 : Int32) q_q.2.1 H.size o50 eo50.symm) (va_cwS 3 hts gfX12_refusesQuestion_0 rfl rfl rfl (by decide +kernel) ⟨(Nat.le_of_ble_eq_true rfl), (Nat.le_of_ble_eq_true rfl)⟩) (PS (hP.sub (ws' := []) [] rfl) (hK.sub (tys' := ([])) [] rfl) (hD.sub (ws' := []) [] (by decide) rfl) hN) rfl rfl hl.1 rfl (lv_room (Nat.le_of_ble_eq_true rfl)) dX12_refusesQuestion_50 ⟨(Nat.le_of_ble_eq_true rfl), (Nat.le_of_ble_eq_true rfl)⟩) hP hD hK hS hA [] [0, 1, 2, 3, 4, 5, 6, 7, 8, 9, 10, 11, 12, 13, 14, 15] rfl rfl (by decide) (by decide) (fun r50 _ H locs hw hP hD _ hS => ?_)
        obtain ⟨hw, br50⟩ := hw
        obtain rfl := hw.symm
        have hP : va_P (dC, dI) vwCl ((a0, .inr (9, [g8, g9, g10, .ref a5, g11, g12, g13, g14, g15, g16, g17, g18, g19, g20, g21, g22, g23, g24, g25, g26, g27, g28, g29, g30, g31, g32, g33, g34, g35, g36])) :: bX11 a5 uq kq q_q []) H := hP
        have hD : va_D A ((a0, .inr (9, [g8, g9, g10, .ref a5, g11, g12, g13, g14, g15, g16, g17, g18, g19, g20, g21, g22, g23, g24, g25, g26, g27, g28, g29, g30, g31, g32, g33, g34, g35, g36])) :: bX11 a5 uq kq q_q []) := hD
        refine lv_if_eq (tgt := 60) hx hb dX12_refusesQuestion_53 (by decide) (fun c53 => ?_) (fun c53 => ?_)
        · have h := (if_pos c53).symm.trans h
          refine lv_iconst (v := 2) hx hb dX12_refusesQuestion_60 (by decide) ?_
          obtain rfl := h
          have hP9 := hP.sub (ws' := ((a0, .inr (9, [g8, g9, g10, .ref a5, g11, g12, g13, g14, g15, g16, g17, g18, g19, g20, g21, g22, g23, g24, g25, g26, g27, g28, g29, g30, g31, g32, g33, g34, g35, g36])) :: bX11 a5 uq kq q_q [])) [0, 1, 2, 3, 4, 5, 6, 7, 8, 9, 10, 11, 12, 13, 14, 15] rfl
          have hD9 := hD.sub (ws' := ((a0, .inr (9, [g8, g9, g10, .ref a5, g11, g12, g13, g14, g15, g16, g17, g18, g19, g20, g21, g22, g23, g24, g25, g26, g27, g28, g29, g30, g31, g32, g33, g34, g35, g36])) :: bX11 a5 uq kq q_q [])) [0, 1, 2, 3, 4, 5, 6, 7, 8, 9, 10, 11, 12, 13, 14, 15] (by decide) rfl
          have hK9 := hK.sub (tys' := []) [] rfl
          rw [hQQ]
          exact W.iret (v := (2 : Int32)) hx hb hr (fun t ht hW => ⟨⟨(2 : Int32), (), rfl, rfl, by rw [ht]; exact hP9, va_K.moved hW.alike hK9, hD9⟩, hS.F ht⟩) hS.2.2 dX12_refusesQuestion_61
        · have h := (if_neg c53).symm.trans h
          refine lv_iconst (v := 0) hx hb dX12_refusesQuestion_56 (by decide) ?_
          refine lv_goto (tgt := 61) hx hb dX12_refusesQuestion_57 (by decide) ?_
          obtain rfl := h
          have hP9 := hP.sub (ws' := ((a0, .inr (9, [g8, g9, g10, .ref a5, g11, g12, g13, g14, g15, g16, g17, g18, g19, g20, g21, g22, g23, g24, g25, g26, g27, g28, g29, g30, g31, g32, g33, g34, g35, g36])) :: bX11 a5 uq kq q_q [])) [0, 1, 2, 3, 4, 5, 6, 7, 8, 9, 10, 11, 12, 13, 14, 15] rfl
          have hD9 := hD.sub (ws' := ((a0, .inr (9, [g8, g9, g10, .ref a5, g11, g12, g13, g14, g15, g16, g17, g18, g19, g20, g21, g22, g23, g24, g25, g26, g27, g28, g29, g30, g31, g32, g33, g34, g35, g36])) :: bX11 a5 uq kq q_q [])) [0, 1, 2, 3, 4, 5, 6, 7, 8, 9, 10, 11, 12, 13, 14, 15] (by decide) rfl
          have hK9 := hK.sub (tys' := []) [] rfl
          rw [hQQ]
          exact W.iret (v := (0 : Int32)) hx hb hr (fun t ht hW => ⟨⟨(0 : Int32), (), rfl, rfl, by rw [ht]; exact hP9, va_K.moved hW.alike hK9, hD9⟩, hS.F ht⟩) hS.2.2 dX12_refusesQuestion_61
      · have h := (if_pos c36).symm.trans h
        refine lv_iconst (v := 1) hx hb dX12_refusesQuestion_39 (by decide) ?_
        obtain rfl := h
        have hP9 := hP.sub (ws' := ((a0, .inr (9, [g8, g9, g10, .ref a5, g11, g12, g13, g14, g15, g16, g17, g18, g19, g20, g21, g22, g23, g24, g25, g26, g27, g28, g29, g30, g31, g32, g33, g34, g35, g36])) :: bX11 a5 uq kq q_q [])) [0, 1, 2, 3, 4, 5, 6, 7, 8, 9, 10, 11, 12, 13, 14, 15] rfl
        have hD9 := hD.sub (ws' := ((a0, .inr (9, [g8, g9, g10, .ref a5, g11, g12, g13, g14, g15, g16, g17, g18, g19, g20, g21, g22, g23, g24, g25, g26, g27, g28, g29, g30, g31, g32, g33, g34, g35, g36])) :: bX11 a5 uq kq q_q [])) [0, 1, 2, 3, 4, 5, 6, 7, 8, 9, 10, 11, 12, 13, 14, 15] (by decide) rfl
        have hK9 := hK.sub (tys' := []) [] rfl
        rw [hQQ]
        exact W.iret (v := (1 : Int32)) hx hb hr (fun t ht hW => ⟨⟨(1 : Int32), (), rfl, rfl, by rw [ht]; exact hP9, va_K.moved hW.alike hK9, hD9⟩, hS.F ht⟩) hS.2.2 dX12_refusesQuestion_40
theorem dX11_isClose_0 : decode cX11_isClose 0 = .ok (.iload_n 1, 1) := by decide +kernel
theorem dX11_isClose_1 : decode cX11_isClose 1 = .ok (.aload_n 0, 1) := by decide +kernel
theorem dX11_isClose_10 : decode cX11_isClose 10 = .ok (.getfield 84, 3) := by decide +kernel
theorem dX11_isClose_13 : decode cX11_isClose 13 = .ok (.if_icmp .gt 7, 3) := by decide +kernel
theorem dX11_isClose_16 : decode cX11_isClose 16 = .ok (.iconst 1, 1) := by decide +kernel
theorem dX11_isClose_17 : decode cX11_isClose 17 = .ok (.goto 4, 3) := by decide +kernel
theorem dX11_isClose_2 : decode cX11_isClose 2 = .ok (.getfield 81, 3) := by decide +kernel
theorem dX11_isClose_20 : decode cX11_isClose 20 = .ok (.iconst 0, 1) := by decide +kernel
theorem dX11_isClose_21 : decode cX11_isClose 21 = .ok (.ireturn, 1) := by decide +kernel
theorem dX11_isClose_5 : decode cX11_isClose 5 = .ok (.if_icmp .lt 15, 3) := by decide +kernel
theorem dX11_isClose_8 : decode cX11_isClose 8 = .ok (.iload_n 1, 1) := by decide +kernel
theorem dX11_isClose_9 : decode cX11_isClose 9 = .ok (.aload_n 0, 1) := by decide +kernel
def vfX11_isClose : List Cond := List.cons (.code yX11_isClose cX11_isClose 2 (some .boolean)) (apW [.fieldLink RX11 81 "HookPierModel$Pier" "from" "I", .fieldLink RX11 84 "HookPierModel$Pier" "to" "I"] (wsX110))
theorem ifX11_isClose_X11 : ∀ w ∈ wsX110, w ∈ vfX11_isClose := fun _ h => (List.mem_cons_of_mem _ (List.mem_append_right _ h))
theorem qfX11_isClose : Good vfX11_isClose := gd_cons (by decide +kernel) (gd_app (gd_dec (by decide +kernel) : Good [.fieldLink RX11 81 "HookPierModel$Pier" "from" "I", .fieldLink RX11 84 "HookPierModel$Pier" "to" "I"]) qsX11)
set_option maxHeartbeats 2000000 in
set_option maxRecDepth 100000 in
theorem kfX11_isClose (l : Launch) (dC : Nat → ClassId) (dI : Nat → Nat → Nat) (a0 : Nat) (k1 : Int32) (uq : Nat → Nat) (kq : Nat → ClassId) (q_q : TX11_q) (sz : Nat) (out : Int32) (h : f_X11_isClose k1 q_q = out) : Met l yX11_isClose vfX11_isClose ({ frames := 0, cells := 0, slots := 0, locals := 0 }) (PC (dC, dI) [.ref a0, .int k1] sz (bX11 a0 uq kq q_q []) (tX11 kq ([]))) (va_Qi (S := Unit) (fun (r : Int32) _ => r = out ∧ (0 ≤ r.toInt ∧ r.toInt ≤ 1)) (fun _ t => BC (dC, dI) (va_A (bX11 a0 uq kq q_q []) sz) (bX11 a0 uq kq q_q []) [] t) (va_A (bX11 a0 uq kq q_q []) sz)) 0 0 (va_A (bX11 a0 uq kq q_q []) sz) := by
  refine Met.ofW (cc := cX11_isClose) (maxL := 2) (ret := (some .boolean)) (by decide) rfl ?_
  intro p e s m args below meth c s₁ B0 hml hv
  obtain ⟨rfl, hsz, hP, hK, hD0, hN⟩ := hv
  have hx := B0.exec
  have hb := B0.bytes
  have hr := B0.returns
  have hts := atoms_spec (ws := vfX11_isClose) B0.pre
  have hown : s.vm.findClass RX11 = some m.cls := findClass_of_methodNamed B0.named
  have hlocks := B0.notSynchronized
  subst hsz
  have hD := hD0.self (sz := s.heap.size)
  generalize hAe : va_A (bX11 a0 uq kq q_q []) s.heap.size = A at hD ⊢
  have hA : ∀ q : Nat, s.heap.size ≤ q → A q := fun q h => by rw [← hAe]; exact Or.inr h
  have hS : va_S A s.heap s.heap [] := va_S.rf
  have hP : va_P (dC, dI) vwCl (bX11 a0 uq kq q_q []) s.heap := hP
  have hl := lv_entry ([.ref a0, .int k1]) (n := 2) (Nat.le_of_ble_eq_true rfl)
  rw [lg_entry_eq]
  generalize (lg_sl ([.ref a0, .int k1]) ++ List.replicate (2 - (lg_sl ([.ref a0, .int k1])).length) Slot.unset).toArray = ls at hl ⊢
  have hl : lv_has ls 2 [(0, .ref a0), (1, .int k1)] := hl
  refine W_q (fun QQ hQQ => ?_)
  rw [f_X11_isClose] at h
  refine lv_iload_n hx hb dX11_isClose_0 rfl (lv_at hl 1 rfl) ?_
  refine lv_aload_n hx hb dX11_isClose_1 rfl (lv_at hl 0 rfl) ?_
  refine va_get (D := (dC, dI)) (ci := 8) (v := .int q_q.2.2.1) (C := RX11) (T := TX11) (N := 24) hx hb hts ifX11_isClose_X11 hown hK hP 0 rfl rfl 2 (by decide) (hts (.fieldLink RX11 81 "HookPierModel$Pier" "from" "I") (List.mem_of_getElem? (i := 1) rfl)) (fun _ h9 => h9) rfl dX11_isClose_2 ?_
  refine lv_icmp_lt (tgt := 20) hx hb dX11_isClose_5 (by decide) (fun c5 => ?_) (fun c5 => ?_)
  · have h := (if_pos c5).symm.trans h
    refine lv_iconst (v := 0) hx hb dX11_isClose_20 (by decide) ?_
    obtain rfl := h
    have hP9 := hP.sub (ws' := (bX11 a0 uq kq q_q [])) [0, 1, 2, 3, 4, 5, 6, 7, 8, 9, 10, 11, 12, 13, 14] rfl
    have hD9 := hD.sub (ws' := (bX11 a0 uq kq q_q [])) [0, 1, 2, 3, 4, 5, 6, 7, 8, 9, 10, 11, 12, 13, 14] (by decide) rfl
    have hK9 := hK.sub (tys' := []) [] rfl
    rw [hQQ]
    exact W.zret (v := (0 : Int32)) hx hb hr rfl (fun t ht hW => ⟨⟨(0 : Int32), (), rfl, ⟨rfl, (by decide)⟩, by rw [ht]; exact hP9, va_K.moved hW.alike hK9, hD9⟩, hS.F ht⟩) hS.2.2 dX11_isClose_21
  · have h := (if_neg c5).symm.trans h
    refine lv_iload_n hx hb dX11_isClose_8 rfl (lv_at hl 1 rfl) ?_
    refine lv_aload_n hx hb dX11_isClose_9 rfl (lv_at hl 0 rfl) ?_
    refine va_get (D := (dC, dI)) (ci := 8) (v := .int q_q.2.2.2.1) (C := RX11) (T := TX11) (N := 24) hx hb hts ifX11_isClose_X11 hown hK hP 0 rfl rfl 3 (by decide) (hts (.fieldLink RX11 84 "HookPierModel$Pier" "to" "I") (List.mem_of_getElem? (i := 2) rfl)) (fun _ h9 => h9) rfl dX11_isClose_10 ?_
    refine lv_icmp_gt (tgt := 20) hx hb dX11_isClose_13 (by decide) (fun c13 => ?_) (fun c13 => ?_)
    · have h := (if_pos c13).symm.trans h
      refine lv_iconst (v := 0) hx hb dX11_isClose_20 (by decide) ?_
      obtain rfl := h
      have hP9 := hP.sub (ws' := (bX11 a0 uq kq q_q [])) [0, 1, 2, 3, 4, 5, 6, 7, 8, 9, 10, 11, 12, 13, 14] rfl
      have hD9 := hD.sub (ws' := (bX11 a0 uq kq q_q [])) [0, 1, 2, 3, 4, 5, 6, 7, 8, 9, 10, 11, 12, 13, 14] (by decide) rfl
      have hK9 := hK.sub (tys' := []) [] rfl
      rw [hQQ]
      exact W.zret (v := (0 : Int32)) hx hb hr rfl (fun t ht hW => ⟨⟨(0 : Int32), (), rfl, ⟨rfl, (by decide)⟩, by rw [ht]; exact hP9, va_K.moved hW.alike hK9, hD9⟩, hS.F ht⟩) hS.2.2 dX11_isClose_21
    · have h := (if_neg c13).symm.trans h
      refine lv_iconst (v := 1) hx hb dX11_isClose_16 (by decide) ?_
      refine lv_goto (tgt := 21) hx hb dX11_isClose_17 (by decide) ?_
      obtain rfl := h
      have hP9 := hP.sub (ws' := (bX11 a0 uq kq q_q [])) [0, 1, 2, 3, 4, 5, 6, 7, 8, 9, 10, 11, 12, 13, 14] rfl
      have hD9 := hD.sub (ws' := (bX11 a0 uq kq q_q [])) [0, 1, 2, 3, 4, 5, 6, 7, 8, 9, 10, 11, 12, 13, 14] (by decide) rfl
      have hK9 := hK.sub (tys' := []) [] rfl
      rw [hQQ]
      exact W.zret (v := (1 : Int32)) hx hb hr rfl (fun t ht hW => ⟨⟨(1 : Int32), (), rfl, ⟨rfl, (by decide)⟩, by rw [ht]; exact hP9, va_K.moved hW.alike hK9, hD9⟩, hS.F ht⟩) hS.2.2 dX11_isClose_21
theorem dX12_remembers_0 : decode cX12_remembers 0 = .ok (.aload_n 0, 1) := by decide +kernel
theorem dX12_remembers_1 : decode cX12_remembers 1 = .ok (.getfield 301, 3) := by decide +kernel
theorem dX12_remembers_10 : decode cX12_remembers 10 = .ok (.istore_n 1, 1) := by decide +kernel
theorem dX12_remembers_11 : decode cX12_remembers 11 = .ok (.iload_n 1, 1) := by decide +kernel
theorem dX12_remembers_12 : decode cX12_remembers 12 = .ok (.sipush 390, 3) := by decide +kernel
theorem dX12_remembers_15 : decode cX12_remembers 15 = .ok (.if_icmp .ge 24, 3) := by decide +kernel
theorem dX12_remembers_18 : decode cX12_remembers 18 = .ok (.aload_n 0, 1) := by decide +kernel
theorem dX12_remembers_19 : decode cX12_remembers 19 = .ok (.getfield 24, 3) := by decide +kernel
theorem dX12_remembers_22 : decode cX12_remembers 22 = .ok (.iload_n 1, 1) := by decide +kernel
theorem dX12_remembers_23 : decode cX12_remembers 23 = .ok (.aload_n 0, 1) := by decide +kernel
theorem dX12_remembers_24 : decode cX12_remembers 24 = .ok (.getfield 24, 3) := by decide +kernel
theorem dX12_remembers_27 : decode cX12_remembers 27 = .ok (.iload_n 1, 1) := by decide +kernel
theorem dX12_remembers_28 : decode cX12_remembers 28 = .ok (.bipush 26, 2) := by decide +kernel
theorem dX12_remembers_30 : decode cX12_remembers 30 = .ok (.iadd, 1) := by decide +kernel
theorem dX12_remembers_31 : decode cX12_remembers 31 = .ok (.iaload, 1) := by decide +kernel
theorem dX12_remembers_32 : decode cX12_remembers 32 = .ok (.iastore, 1) := by decide +kernel
theorem dX12_remembers_33 : decode cX12_remembers 33 = .ok (.iinc 1 1, 3) := by decide +kernel
theorem dX12_remembers_36 : decode cX12_remembers 36 = .ok (.goto (-25), 3) := by decide +kernel
theorem dX12_remembers_39 : decode cX12_remembers 39 = .ok (.aload_n 0, 1) := by decide +kernel
theorem dX12_remembers_4 : decode cX12_remembers 4 = .ok (.bipush 16, 2) := by decide +kernel
theorem dX12_remembers_40 : decode cX12_remembers 40 = .ok (.dup, 1) := by decide +kernel
theorem dX12_remembers_41 : decode cX12_remembers 41 = .ok (.getfield 301, 3) := by decide +kernel
theorem dX12_remembers_44 : decode cX12_remembers 44 = .ok (.iconst 1, 1) := by decide +kernel
theorem dX12_remembers_45 : decode cX12_remembers 45 = .ok (.isub, 1) := by decide +kernel
theorem dX12_remembers_46 : decode cX12_remembers 46 = .ok (.putfield 301, 3) := by decide +kernel
theorem dX12_remembers_49 : decode cX12_remembers 49 = .ok (.iconst 0, 1) := by decide +kernel
theorem dX12_remembers_50 : decode cX12_remembers 50 = .ok (.istore_n 1, 1) := by decide +kernel
theorem dX12_remembers_51 : decode cX12_remembers 51 = .ok (.iload_n 1, 1) := by decide +kernel
theorem dX12_remembers_52 : decode cX12_remembers 52 = .ok (.bipush 26, 2) := by decide +kernel
theorem dX12_remembers_54 : decode cX12_remembers 54 = .ok (.if_icmp .ge 29, 3) := by decide +kernel
theorem dX12_remembers_57 : decode cX12_remembers 57 = .ok (.aload_n 0, 1) := by decide +kernel
theorem dX12_remembers_58 : decode cX12_remembers 58 = .ok (.getfield 24, 3) := by decide +kernel
theorem dX12_remembers_6 : decode cX12_remembers 6 = .ok (.if_icmp .ne 43, 3) := by decide +kernel
theorem dX12_remembers_61 : decode cX12_remembers 61 = .ok (.bipush 26, 2) := by decide +kernel
theorem dX12_remembers_63 : decode cX12_remembers 63 = .ok (.aload_n 0, 1) := by decide +kernel
theorem dX12_remembers_64 : decode cX12_remembers 64 = .ok (.getfield 301, 3) := by decide +kernel
theorem dX12_remembers_67 : decode cX12_remembers 67 = .ok (.imul, 1) := by decide +kernel
theorem dX12_remembers_68 : decode cX12_remembers 68 = .ok (.iload_n 1, 1) := by decide +kernel
theorem dX12_remembers_69 : decode cX12_remembers 69 = .ok (.iadd, 1) := by decide +kernel
theorem dX12_remembers_70 : decode cX12_remembers 70 = .ok (.aload_n 0, 1) := by decide +kernel
theorem dX12_remembers_71 : decode cX12_remembers 71 = .ok (.getfield 17, 3) := by decide +kernel
theorem dX12_remembers_74 : decode cX12_remembers 74 = .ok (.iload_n 1, 1) := by decide +kernel
theorem dX12_remembers_75 : decode cX12_remembers 75 = .ok (.iaload, 1) := by decide +kernel
theorem dX12_remembers_76 : decode cX12_remembers 76 = .ok (.iastore, 1) := by decide +kernel
theorem dX12_remembers_77 : decode cX12_remembers 77 = .ok (.iinc 1 1, 3) := by decide +kernel
theorem dX12_remembers_80 : decode cX12_remembers 80 = .ok (.goto (-29), 3) := by decide +kernel
theorem dX12_remembers_83 : decode cX12_remembers 83 = .ok (.aload_n 0, 1) := by decide +kernel
theorem dX12_remembers_84 : decode cX12_remembers 84 = .ok (.dup, 1) := by decide +kernel
theorem dX12_remembers_85 : decode cX12_remembers 85 = .ok (.getfield 301, 3) := by decide +kernel
theorem dX12_remembers_88 : decode cX12_remembers 88 = .ok (.iconst 1, 1) := by decide +kernel
theorem dX12_remembers_89 : decode cX12_remembers 89 = .ok (.iadd, 1) := by decide +kernel
theorem dX12_remembers_9 : decode cX12_remembers 9 = .ok (.iconst 0, 1) := by decide +kernel
theorem dX12_remembers_90 : decode cX12_remembers 90 = .ok (.putfield 301, 3) := by decide +kernel
theorem dX12_remembers_93 : decode cX12_remembers 93 = .ok (.return_, 1) := by decide +kernel
def vfX12_remembers : List Cond := List.cons (.code yX12_remembers cX12_remembers 2 none) (apW [.fieldLink RX12 301 "HookPierModel" "acts" "I", .fieldLink RX12 24 "HookPierModel" "past" "[I", .fieldLink RX12 17 "HookPierModel" "v" "[I"] (wsX120))
theorem ifX12_remembers_X12 : ∀ w ∈ wsX120, w ∈ vfX12_remembers := fun _ h => (List.mem_cons_of_mem _ (List.mem_append_right _ h))
theorem qfX12_remembers : Good vfX12_remembers := gd_cons (by decide +kernel) (gd_app (gd_dec (by decide +kernel) : Good [.fieldLink RX12 301 "HookPierModel" "acts" "I", .fieldLink RX12 24 "HookPierModel" "past" "[I", .fieldLink RX12 17 "HookPierModel" "v" "[I"]) qsX12)
set_option maxHeartbeats 2000000 in
set_option maxRecDepth 100000 in
theorem kfX12_remembers (l : Launch) (dC : Nat → ClassId) (dI : Nat → Nat → Nat) (a0 : Nat) (a1 : Nat) (a2 : Nat) (a3 : Nat) (m_v : TX12_v) (m_h : TX12_h) (g6 : Value) (g7 : Value) (g8 : Value) (g9 : Value) (g10 : Value) (g11 : Value) (g12 : Value) (g13 : Value) (g14 : Value) (g15 : Value) (g16 : Value) (g17 : Value) (g18 : Value) (g19 : Value) (g20 : Value) (g21 : Value) (g22 : Value) (g23 : Value) (g24 : Value) (g25 : Value) (g26 : Value) (g27 : Value) (g28 : Value) (g29 : Value) (g30 : Value) (cB31 : ClassId) (cB32 : ClassId) (cB33 : ClassId) (sz : Nat) (out : TX12_h) (h : f_X12_remembers m_v m_h = some out) : Met l yX12_remembers vfX12_remembers ({ frames := 0, cells := 0, slots := 0, locals := 0 }) (PC (dC, dI) [.ref a0] sz ([(a0, .inr (9, [g6, g7, g8, g9, g10, g11, g12, g13, g14, g15, g16, g17, g18, g19, g20, .ref a1, g21, .ref a2, .ref a3, .int m_h.2.2.1, .int m_h.2.2.2, g22, g23, g24, g25, g26, g27, g28, g29, g30])), (a1, .inl (cB31, 26, .inl m_v)), (a2, .inl (cB32, 416, .inl m_h.1)), (a3, .inl (cB33, 78, .inl m_h.2.1))]) ((cB31, .int) :: (cB32, .int) :: (cB33, .int) :: [])) (va_Qv (S := Unit) (fun _ => True) (fun _ t => BC (dC, dI) (va_A ([(a0, .inr (9, [g6, g7, g8, g9, g10, g11, g12, g13, g14, g15, g16, g17, g18, g19, g20, .ref a1, g21, .ref a2, .ref a3, .int m_h.2.2.1, .int m_h.2.2.2, g22, g23, g24, g25, g26, g27, g28, g29, g30])), (a1, .inl (cB31, 26, .inl m_v)), (a2, .inl (cB32, 416, .inl m_h.1)), (a3, .inl (cB33, 78, .inl m_h.2.1))]) sz) ([(a0, .inr (9, [g6, g7, g8, g9, g10, g11, g12, g13, g14, g15, g16, g17, g18, g19, g20, .ref a1, g21, .ref a2, .ref a3, .int out.2.2.1, .int out.2.2.2, g22, g23, g24, g25, g26, g27, g28, g29, g30])), (a1, .inl (cB31, 26, .inl m_v)), (a2, .inl (cB32, 416, .inl out.1)), (a3, .inl (cB33, 78, .inl out.2.1))]) [] t) (va_A ([(a0, .inr (9, [g6, g7, g8, g9, g10, g11, g12, g13, g14, g15, g16, g17, g18, g19, g20, .ref a1, g21, .ref a2, .ref a3, .int m_h.2.2.1, .int m_h.2.2.2, g22, g23, g24, g25, g26, g27, g28, g29, g30])), (a1, .inl (cB31, 26, .inl m_v)), (a2, .inl (cB32, 416, .inl m_h.1)), (a3, .inl (cB33, 78, .inl m_h.2.1))]) sz)) 0 0 (va_A ([(a0, .inr (9, [g6, g7, g8, g9, g10, g11, g12, g13, g14, g15, g16, g17, g18, g19, g20, .ref a1, g21, .ref a2, .ref a3, .int m_h.2.2.1, .int m_h.2.2.2, g22, g23, g24, g25, g26, g27, g28, g29, g30])), (a1, .inl (cB31, 26, .inl m_v)), (a2, .inl (cB32, 416, .inl m_h.1)), (a3, .inl (cB33, 78, .inl m_h.2.1))]) sz) := by
  refine Met.ofW (cc := cX12_remembers) (maxL := 2) (ret := none) (by decide) rfl ?_
  intro p e s m args below meth c s₁ B0 hml hv
  obtain ⟨rfl, hsz, hP, hK, hD0, hN⟩ := hv
  have hx := B0.exec
  have hb := B0.bytes
  have hr := B0.returns
  have hts := atoms_spec (ws := vfX12_remembers) B0.pre
  have hown : s.vm.findClass RX12 = some m.cls := findClass_of_methodNamed B0.named
  have hlocks := B0.notSynchronized
  subst hsz
  have hD := hD0.self (sz := s.heap.size)
  generalize hAe : va_A ([(a0, .inr (9, [g6, g7, g8, g9, g10, g11, g12, g13, g14, g15, g16, g17, g18, g19, g20, .ref a1, g21, .ref a2, .ref a3, .int m_h.2.2.1, .int m_h.2.2.2, g22, g23, g24, g25, g26, g27, g28, g29, g30])), (a1, .inl (cB31, 26, .inl m_v)), (a2, .inl (cB32, 416, .inl m_h.1)), (a3, .inl (cB33, 78, .inl m_h.2.1))]) s.heap.size = A at hD ⊢
  have hA : ∀ q : Nat, s.heap.size ≤ q → A q := fun q h => by rw [← hAe]; exact Or.inr h
  have hS : va_S A s.heap s.heap [] := va_S.rf
  have hP : va_P (dC, dI) vwCl ([(a0, .inr (9, [g6, g7, g8, g9, g10, g11, g12, g13, g14, g15, g16, g17, g18, g19, g20, .ref a1, g21, .ref a2, .ref a3, .int m_h.2.2.1, .int m_h.2.2.2, g22, g23, g24, g25, g26, g27, g28, g29, g30])), (a1, .inl (cB31, 26, .inl m_v)), (a2, .inl (cB32, 416, .inl m_h.1)), (a3, .inl (cB33, 78, .inl m_h.2.1))]) s.heap := hP
  have hl := lv_entry ([.ref a0]) (n := 2) (Nat.le_of_ble_eq_true rfl)
  rw [lg_entry_eq]
  generalize (lg_sl ([.ref a0]) ++ List.replicate (2 - (lg_sl ([.ref a0])).length) Slot.unset).toArray = ls at hl ⊢
  have hl : lv_has ls 2 [(0, .ref a0)] := hl
  refine W_q (fun QQ hQQ => ?_)
  rw [f_X12_remembers] at h
  refine lv_aload_n hx hb dX12_remembers_0 rfl (lv_at hl 0 rfl) ?_
  refine va_get (D := (dC, dI)) (ci := 9) (v := .int m_h.2.2.1) (C := RX12) (T := TX12) (N := 30) hx hb hts ifX12_remembers_X12 hown hK hP 0 rfl rfl 19 (by decide) (hts (.fieldLink RX12 301 "HookPierModel" "acts" "I") (List.mem_of_getElem? (i := 1) rfl)) (fun _ h9 => h9) rfl dX12_remembers_1 ?_
  refine lv_bipush (v := 16) hx hb dX12_remembers_4 (by decide) ?_
  have J49 : ∀ (v49_m_h : TX12_h) (H : Heap) (locs : List Loc) (ls : Array Slot), f_X12_remembers_J49 m_v v49_m_h = some out → va_P (dC, dI) vwCl ([(a0, .inr (9, [g6, g7, g8, g9, g10, g11, g12, g13, g14, g15, g16, g17, g18, g19, g20, .ref a1, g21, .ref a2, .ref a3, .int v49_m_h.2.2.1, .int v49_m_h.2.2.2, g22, g23, g24, g25, g26, g27, g28, g29, g30])), (a1, .inl (cB31, 26, .inl m_v)), (a2, .inl (cB32, 416, .inl v49_m_h.1)), (a3, .inl (cB33, 78, .inl v49_m_h.2.1))]) H → va_D A ([(a0, .inr (9, [g6, g7, g8, g9, g10, g11, g12, g13, g14, g15, g16, g17, g18, g19, g20, .ref a1, g21, .ref a2, .ref a3, .int v49_m_h.2.2.1, .int v49_m_h.2.2.2, g22, g23, g24, g25, g26, g27, g28, g29, g30])), (a1, .inl (cB31, 26, .inl m_v)), (a2, .inl (cB32, 416, .inl v49_m_h.1)), (a3, .inl (cB33, 78, .inl v49_m_h.2.1))]) → va_S A s.heap H locs → lv_has ls 2 [(0, .ref a0)] → W p l e (headSpec vfX12_remembers { frames := 0, cells := 0, slots := 0, locals := 0 }).room s m ([.ref a0]).toArray below meth c H locs 0 0 QQ (F0 m 49 ls []) := by
    intro v49_m_h H locs ls h  hP hD hS hl
    rw [f_X12_remembers_J49] at h
    refine lv_iconst (v := 0) hx hb dX12_remembers_49 (by decide) ?_
    refine lv_istore_n (lv' := [(1, .int 0), (0, .ref a0)]) hx hb dX12_remembers_50 rfl hl (by decide) rfl (fun ls hl => ?_)
    have L51 : ∀ (n51 : Nat) (v51_l1 : Int32) (v51_m_h : TX12_h) (H : Heap) (locs : List Loc) (ls : Array Slot), f_X12_remembers_L51 m_v n51 v51_l1 v51_m_h = some out → va_P (dC, dI) vwCl ([(a0, .inr (9, [g6, g7, g8, g9, g10, g11, g12, g13, g14, g15, g16, g17, g18, g19, g20, .ref a1, g21, .ref a2, .ref a3, .int v51_m_h.2.2.1, .int v51_m_h.2.2.2, g22, g23, g24, g25, g26, g27, g28, g29, g30])), (a1, .inl (cB31, 26, .inl m_v)), (a2, .inl (cB32, 416, .inl v51_m_h.1)), (a3, .inl (cB33, 78, .inl v51_m_h.2.1))]) H → va_D A ([(a0, .inr (9, [g6, g7, g8, g9, g10, g11, g12, g13, g14, g15, g16, g17, g18, g19, g20, .ref a1, g21, .ref a2, .ref a3, .int v51_m_h.2.2.1, .int v51_m_h.2.2.2, g22, g23, g24, g25, g26, g27, g28, g29, g30])), (a1, .inl (cB31, 26, .inl m_v)), (a2, .inl (cB32, 416, .inl v51_m_h.1)), (a3, .inl (cB33, 78, .inl v51_m_h.2.1))]) → va_S A s.heap H locs → lv_has ls 2 [(1, .int v51_l1), (0, .ref a0)] → W p l e (headSpec vfX12_remembers { frames := 0, cells := 0, slots := 0, locals := 0 }).room s m ([.ref a0]).toArray below meth c H locs 0 0 QQ (F0 m 51 ls []) := by
      intro n51
      induction n51 with
      | zero =>
        intro v51_l1 v51_m_h H locs ls h  _ _ _ _
        rw [f_X12_remembers_L51] at h
        cases h
      | succ n51 ih51 =>
        intro v51_l1 v51_m_h H locs ls h  hP hD hS hl
        rw [f_X12_remembers_L51] at h
        refine lv_iload_n hx hb dX12_remembers_51 rfl (lv_at hl 0 rfl) ?_
        refine lv_bipush (v := 26) hx hb dX12_remembers_52 (by decide) ?_
        refine lv_icmp_ge (tgt := 83) hx hb dX12_remembers_54 (by decide) (fun c54 => ?_) (fun c54 => ?_)
        · have h := (if_pos c54).symm.trans h
          refine lv_aload_n hx hb dX12_remembers_83 rfl (lv_at hl 1 rfl) ?_
          refine lv_dup hx hb dX12_remembers_84 rfl ?_
          refine va_get (D := (dC, dI)) (ci := 9) (v := .int v51_m_h.2.2.1) (C := RX12) (T := TX12) (N := 30) hx hb hts ifX12_remembers_X12 hown hK hP 0 rfl rfl 19 (by decide) (hts (.fieldLink RX12 301 "HookPierModel" "acts" "I") (List.mem_of_getElem? (i := 1) rfl)) (fun _ h9 => h9) rfl dX12_remembers_85 ?_
          refine lv_iconst (v := 1) hx hb dX12_remembers_88 (by decide) ?_
          refine lv_iadd hx hb dX12_remembers_89 ?_
          refine va_put (D := (dC, dI)) (ci := 9) (v := .int (v51_m_h.2.2.1 + (1 : Int32))) (ty := .int) (C := RX12) (T := TX12) (N := 30) hx hb hts ifX12_remembers_X12 tyX12 tyX12_ok nmX12 hown hK hP hD hS 0 rfl rfl 19 (by decide) (hts (.fieldLink RX12 301 "HookPierModel" "acts" "I") (List.mem_of_getElem? (i := 1) rfl)) (fun _ h9 => h9) rfl (by decide +kernel) rfl rfl (Nat.le_of_ble_eq_true rfl) dX12_remembers_90 (fun H locs hP hD hS => ?_)
          have hP : va_P (dC, dI) vwCl ([(a0, .inr (9, [g6, g7, g8, g9, g10, g11, g12, g13, g14, g15, g16, g17, g18, g19, g20, .ref a1, g21, .ref a2, .ref a3, .int (v51_m_h.2.2.1 + (1 : Int32)), .int v51_m_h.2.2.2, g22, g23, g24, g25, g26, g27, g28, g29, g30])), (a1, .inl (cB31, 26, .inl m_v)), (a2, .inl (cB32, 416, .inl v51_m_h.1)), (a3, .inl (cB33, 78, .inl v51_m_h.2.1))]) H := hP
          have hD : va_D A ([(a0, .inr (9, [g6, g7, g8, g9, g10, g11, g12, g13, g14, g15, g16, g17, g18, g19, g20, .ref a1, g21, .ref a2, .ref a3, .int (v51_m_h.2.2.1 + (1 : Int32)), .int v51_m_h.2.2.2, g22, g23, g24, g25, g26, g27, g28, g29, g30])), (a1, .inl (cB31, 26, .inl m_v)), (a2, .inl (cB32, 416, .inl v51_m_h.1)), (a3, .inl (cB33, 78, .inl v51_m_h.2.1))]) := hD
          obtain rfl := Option.some.inj h
          have hP9 := hP.sub (ws' := ([(a0, .inr (9, [g6, g7, g8, g9, g10, g11, g12, g13, g14, g15, g16, g17, g18, g19, g20, .ref a1, g21, .ref a2, .ref a3, .int (v51_m_h.2.2.1 + (1 : Int32)), .int v51_m_h.2.2.2, g22, g23, g24, g25, g26, g27, g28, g29, g30])), (a1, .inl (cB31, 26, .inl m_v)), (a2, .inl (cB32, 416, .inl v51_m_h.1)), (a3, .inl (cB33, 78, .inl v51_m_h.2.1))])) [0, 1, 2, 3] rfl
          have hD9 := hD.sub (ws' := ([(a0, .inr (9, [g6, g7, g8, g9, g10, g11, g12, g13, g14, g15, g16, g17, g18, g19, g20, .ref a1, g21, .ref a2, .ref a3, .int (v51_m_h.2.2.1 + (1 : Int32)), .int v51_m_h.2.2.2, g22, g23, g24, g25, g26, g27, g28, g29, g30])), (a1, .inl (cB31, 26, .inl m_v)), (a2, .inl (cB32, 416, .inl v51_m_h.1)), (a3, .inl (cB33, 78, .inl v51_m_h.2.1))])) [0, 1, 2, 3] (by decide) rfl
          have hK9 := hK.sub (tys' := []) [] rfl
          rw [hQQ]
          exact W.vret hx hb hr (fun t ht hW => ⟨⟨(), rfl, trivial, by rw [ht]; exact hP9, va_K.moved hW.alike hK9, hD9⟩, hS.F ht⟩) hS.2.2 dX12_remembers_93
        · have h := (if_neg c54).symm.trans h
          refine lv_aload_n hx hb dX12_remembers_57 rfl (lv_at hl 1 rfl) ?_
          refine va_get (D := (dC, dI)) (ci := 9) (v := .ref a2) (C := RX12) (T := TX12) (N := 30) hx hb hts ifX12_remembers_X12 hown hK hP 0 rfl rfl 17 (by decide) (hts (.fieldLink RX12 24 "HookPierModel" "past" "[I") (List.mem_of_getElem? (i := 2) rfl)) (fun _ h9 => h9) rfl dX12_remembers_58 ?_
          refine lv_bipush (v := 26) hx hb dX12_remembers_61 (by decide) ?_
          refine lv_aload_n hx hb dX12_remembers_63 rfl (lv_at hl 1 rfl) ?_
          refine va_get (D := (dC, dI)) (ci := 9) (v := .int v51_m_h.2.2.1) (C := RX12) (T := TX12) (N := 30) hx hb hts ifX12_remembers_X12 hown hK hP 0 rfl rfl 19 (by decide) (hts (.fieldLink RX12 301 "HookPierModel" "acts" "I") (List.mem_of_getElem? (i := 1) rfl)) (fun _ h9 => h9) rfl dX12_remembers_64 ?_
          refine lv_imul hx hb dX12_remembers_67 ?_
          refine lv_iload_n hx hb dX12_remembers_68 rfl (lv_at hl 0 rfl) ?_
          refine lv_iadd hx hb dX12_remembers_69 ?_
          refine lv_aload_n hx hb dX12_remembers_70 rfl (lv_at hl 1 rfl) ?_
          refine va_get (D := (dC, dI)) (ci := 9) (v := .ref a1) (C := RX12) (T := TX12) (N := 30) hx hb hts ifX12_remembers_X12 hown hK hP 0 rfl rfl 15 (by decide) (hts (.fieldLink RX12 17 "HookPierModel" "v" "[I") (List.mem_of_getElem? (i := 3) rfl)) (fun _ h9 => h9) rfl dX12_remembers_71 ?_
          refine lv_iload_n hx hb dX12_remembers_74 rfl (lv_at hl 0 rfl) ?_
          obtain ⟨hg75, h⟩ := gA_of h
          refine va_iald hx hb hK hP 1 0 rfl rfl hg75 dX12_remembers_75 ?_
          obtain ⟨hg76, h⟩ := gA_of h
          refine va_iast hx hb hK hP hD hS 2 1 rfl rfl hg76 dX12_remembers_76 (fun H locs hP hD hS => ?_)
          have hP : va_P (dC, dI) vwCl ([(a0, .inr (9, [g6, g7, g8, g9, g10, g11, g12, g13, g14, g15, g16, g17, g18, g19, g20, .ref a1, g21, .ref a2, .ref a3, .int v51_m_h.2.2.1, .int v51_m_h.2.2.2, g22, g23, g24, g25, g26, g27, g28, g29, g30])), (a1, .inl (cB31, 26, .inl m_v)), (a2, .inl (cB32, 416, .inl (upd v51_m_h.1 ((((26 : Int32) * v51_m_h.2.2.1) + v51_l1)).toNatClampNeg (m_v (v51_l1).toNatClampNeg)))), (a3, .inl (cB33, 78, .inl v51_m_h.2.1))]) H := hP
          have hD : va_D A ([(a0, .inr (9, [g6, g7, g8, g9, g10, g11, g12, g13, g14, g15, g16, g17, g18, g19, g20, .ref a1, g21, .ref a2, .ref a3, .int v51_m_h.2.2.1, .int v51_m_h.2.2.2, g22, g23, g24, g25, g26, g27, g28, g29, g30])), (a1, .inl (cB31, 26, .inl m_v)), (a2, .inl (cB32, 416, .inl (upd v51_m_h.1 ((((26 : Int32) * v51_m_h.2.2.1) + v51_l1)).toNatClampNeg (m_v (v51_l1).toNatClampNeg)))), (a3, .inl (cB33, 78, .inl v51_m_h.2.1))]) := hD
          refine lv_iinc (v := (v51_l1 + (1 : Int32))) (lv' := [(1, .int (v51_l1 + (1 : Int32))), (0, .ref a0)]) hx hb dX12_remembers_77 hl (k := 0) rfl rfl (by decide) rfl (fun ls hl => ?_)
          refine lv_goto (tgt := 51) hx hb dX12_remembers_80 (by decide) ?_
          exact ih51 (v51_l1 + (1 : Int32)) ((upd v51_m_h.1 ((((26 : Int32) * v51_m_h.2.2.1) + v51_l1)).toNatClampNeg (m_v (v51_l1).toNatClampNeg)), v51_m_h.2) H _ ls h  hP hD hS (lv_sub hl [0, 1] rfl)
    exact L51 FU (0 : Int32) v49_m_h H _ ls h  hP hD hS (lv_sub hl [0, 1] rfl)
  refine lv_icmp_ne (tgt := 49) hx hb dX12_remembers_6 (by decide) (fun c6 => ?_) (fun c6 => ?_)
  · have h := (if_neg c6).symm.trans h
    exact J49 m_h s.heap _ ls h  hP hD hS (lv_sub hl [0] rfl)
  · have h := (if_pos c6).symm.trans h
    refine lv_iconst (v := 0) hx hb dX12_remembers_9 (by decide) ?_
    refine lv_istore_n (lv' := [(1, .int 0), (0, .ref a0)]) hx hb dX12_remembers_10 rfl hl (by decide) rfl (fun ls hl => ?_)
    have L11 : ∀ (n11 : Nat) (v11_l1 : Int32) (v11_m_h : TX12_h) (H : Heap) (locs : List Loc) (ls : Array Slot), f_X12_remembers_L11 m_v n11 v11_l1 v11_m_h = some out → va_P (dC, dI) vwCl ([(a0, .inr (9, [g6, g7, g8, g9, g10, g11, g12, g13, g14, g15, g16, g17, g18, g19, g20, .ref a1, g21, .ref a2, .ref a3, .int v11_m_h.2.2.1, .int v11_m_h.2.2.2, g22, g23, g24, g25, g26, g27, g28, g29, g30])), (a1, .inl (cB31, 26, .inl m_v)), (a2, .inl (cB32, 416, .inl v11_m_h.1)), (a3, .inl (cB33, 78, .inl v11_m_h.2.1))]) H → va_D A ([(a0, .inr (9, [g6, g7, g8, g9, g10, g11, g12, g13, g14, g15, g16, g17, g18, g19, g20, .ref a1, g21, .ref a2, .ref a3, .int v11_m_h.2.2.1, .int v11_m_h.2.2.2, g22, g23, g24, g25, g26, g27, g28, g29, g30])), (a1, .inl (cB31, 26, .inl m_v)), (a2, .inl (cB32, 416, .inl v11_m_h.1)), (a3, .inl (cB33, 78, .inl v11_m_h.2.1))]) → va_S A s.heap H locs → lv_has ls 2 [(1, .int v11_l1), (0, .ref a0)] → W p l e (headSpec vfX12_remembers { frames := 0, cells := 0, slots := 0, locals := 0 }).room s m ([.ref a0]).toArray below meth c H locs 0 0 QQ (F0 m 11 ls []) := by
      intro n11
      induction n11 with
      | zero =>
        intro v11_l1 v11_m_h H locs ls h  _ _ _ _
        rw [f_X12_remembers_L11] at h
        cases h
      | succ n11 ih11 =>
        intro v11_l1 v11_m_h H locs ls h  hP hD hS hl
        rw [f_X12_remembers_L11] at h
        refine lv_iload_n hx hb dX12_remembers_11 rfl (lv_at hl 0 rfl) ?_
        refine lv_sipush (v := 390) hx hb dX12_remembers_12 (by decide) ?_
        refine lv_icmp_ge (tgt := 39) hx hb dX12_remembers_15 (by decide) (fun c15 => ?_) (fun c15 => ?_)
        · have h := (if_pos c15).symm.trans h
          refine lv_aload_n hx hb dX12_remembers_39 rfl (lv_at hl 1 rfl) ?_
          refine lv_dup hx hb dX12_remembers_40 rfl ?_
          refine va_get (D := (dC, dI)) (ci := 9) (v := .int v11_m_h.2.2.1) (C := RX12) (T := TX12) (N := 30) hx hb hts ifX12_remembers_X12 hown hK hP 0 rfl rfl 19 (by decide) (hts (.fieldLink RX12 301 "HookPierModel" "acts" "I") (List.mem_of_getElem? (i := 1) rfl)) (fun _ h9 => h9) rfl dX12_remembers_41 ?_
          refine lv_iconst (v := 1) hx hb dX12_remembers_44 (by decide) ?_
          refine lv_isub hx hb dX12_remembers_45 ?_
          refine va_put (D := (dC, dI)) (ci := 9) (v := .int (v11_m_h.2.2.1 - (1 : Int32))) (ty := .int) (C := RX12) (T := TX12) (N := 30) hx hb hts ifX12_remembers_X12 tyX12 tyX12_ok nmX12 hown hK hP hD hS 0 rfl rfl 19 (by decide) (hts (.fieldLink RX12 301 "HookPierModel" "acts" "I") (List.mem_of_getElem? (i := 1) rfl)) (fun _ h9 => h9) rfl (by decide +kernel) rfl rfl (Nat.le_of_ble_eq_true rfl) dX12_remembers_46 (fun H locs hP hD hS => ?_)
          have hP : va_P (dC, dI) vwCl ([(a0, .inr (9, [g6, g7, g8, g9, g10, g11, g12, g13, g14, g15, g16, g17, g18, g19, g20, .ref a1, g21, .ref a2, .ref a3, .int (v11_m_h.2.2.1 - (1 : Int32)), .int v11_m_h.2.2.2, g22, g23, g24, g25, g26, g27, g28, g29, g30])), (a1, .inl (cB31, 26, .inl m_v)), (a2, .inl (cB32, 416, .inl v11_m_h.1)), (a3, .inl (cB33, 78, .inl v11_m_h.2.1))]) H := hP
          have hD : va_D A ([(a0, .inr (9, [g6, g7, g8, g9, g10, g11, g12, g13, g14, g15, g16, g17, g18, g19, g20, .ref a1, g21, .ref a2, .ref a3, .int (v11_m_h.2.2.1 - (1 : Int32)), .int v11_m_h.2.2.2, g22, g23, g24, g25, g26, g27, g28, g29, g30])), (a1, .inl (cB31, 26, .inl m_v)), (a2, .inl (cB32, 416, .inl v11_m_h.1)), (a3, .inl (cB33, 78, .inl v11_m_h.2.1))]) := hD
          exact J49 (v11_m_h.1, v11_m_h.2.1, (v11_m_h.2.2.1 - (1 : Int32)), v11_m_h.2.2.2) H _ ls h  hP hD hS (lv_sub hl [1] rfl)
        · have h := (if_neg c15).symm.trans h
          refine lv_aload_n hx hb dX12_remembers_18 rfl (lv_at hl 1 rfl) ?_
          refine va_get (D := (dC, dI)) (ci := 9) (v := .ref a2) (C := RX12) (T := TX12) (N := 30) hx hb hts ifX12_remembers_X12 hown hK hP 0 rfl rfl 17 (by decide) (hts (.fieldLink RX12 24 "HookPierModel" "past" "[I") (List.mem_of_getElem? (i := 2) rfl)) (fun _ h9 => h9) rfl dX12_remembers_19 ?_
          refine lv_iload_n hx hb dX12_remembers_22 rfl (lv_at hl 0 rfl) ?_
          refine lv_aload_n hx hb dX12_remembers_23 rfl (lv_at hl 1 rfl) ?_
          refine va_get (D := (dC, dI)) (ci := 9) (v := .ref a2) (C := RX12) (T := TX12) (N := 30) hx hb hts ifX12_remembers_X12 hown hK hP 0 rfl rfl 17 (by decide) (hts (.fieldLink RX12 24 "HookPierModel" "past" "[I") (List.mem_of_getElem? (i := 2) rfl)) (fun _ h9 => h9) rfl dX12_remembers_24 ?_
          refine lv_iload_n hx hb dX12_remembers_27 rfl (lv_at hl 0 rfl) ?_
          refine lv_bipush (v := 26) hx hb dX12_remembers_28 (by decide) ?_
          refine lv_iadd hx hb dX12_remembers_30 ?_
          obtain ⟨hg31, h⟩ := gA_of h
          refine va_iald hx hb hK hP 2 1 rfl rfl hg31 dX12_remembers_31 ?_
          obtain ⟨hg32, h⟩ := gA_of h
          refine va_iast hx hb hK hP hD hS 2 1 rfl rfl hg32 dX12_remembers_32 (fun H locs hP hD hS => ?_)
          have hP : va_P (dC, dI) vwCl ([(a0, .inr (9, [g6, g7, g8, g9, g10, g11, g12, g13, g14, g15, g16, g17, g18, g19, g20, .ref a1, g21, .ref a2, .ref a3, .int v11_m_h.2.2.1, .int v11_m_h.2.2.2, g22, g23, g24, g25, g26, g27, g28, g29, g30])), (a1, .inl (cB31, 26, .inl m_v)), (a2, .inl (cB32, 416, .inl (upd v11_m_h.1 (v11_l1).toNatClampNeg (v11_m_h.1 ((v11_l1 + (26 : Int32))).toNatClampNeg)))), (a3, .inl (cB33, 78, .inl v11_m_h.2.1))]) H := hP
          have hD : va_D A ([(a0, .inr (9, [g6, g7, g8, g9, g10, g11, g12, g13, g14, g15, g16, g17, g18, g19, g20, .ref a1, g21, .ref a2, .ref a3, .int v11_m_h.2.2.1, .int v11_m_h.2.2.2, g22, g23, g24, g25, g26, g27, g28, g29, g30])), (a1, .inl (cB31, 26, .inl m_v)), (a2, .inl (cB32, 416, .inl (upd v11_m_h.1 (v11_l1).toNatClampNeg (v11_m_h.1 ((v11_l1 + (26 : Int32))).toNatClampNeg)))), (a3, .inl (cB33, 78, .inl v11_m_h.2.1))]) := hD
          refine lv_iinc (v := (v11_l1 + (1 : Int32))) (lv' := [(1, .int (v11_l1 + (1 : Int32))), (0, .ref a0)]) hx hb dX12_remembers_33 hl (k := 0) rfl rfl (by decide) rfl (fun ls hl => ?_)
          refine lv_goto (tgt := 11) hx hb dX12_remembers_36 (by decide) ?_
          exact ih11 (v11_l1 + (1 : Int32)) ((upd v11_m_h.1 (v11_l1).toNatClampNeg (v11_m_h.1 ((v11_l1 + (26 : Int32))).toNatClampNeg)), v11_m_h.2) H _ ls h  hP hD hS (lv_sub hl [0, 1] rfl)
    exact L11 FU (0 : Int32) m_h s.heap _ ls h  hP hD hS (lv_sub hl [0, 1] rfl)
theorem dX12_question_0 : decode cX12_question 0 = .ok (.iload_n 1, 1) := by decide +kernel
theorem dX12_question_1 : decode cX12_question 1 = .ok (.aload_n 0, 1) := by decide +kernel
theorem dX12_question_10 : decode cX12_question 10 = .ok (.iadd, 1) := by decide +kernel
theorem dX12_question_11 : decode cX12_question 11 = .ok (.iconst 1, 1) := by decide +kernel
theorem dX12_question_12 : decode cX12_question 12 = .ok (.isub, 1) := by decide +kernel
theorem dX12_question_13 : decode cX12_question 13 = .ok (.aload_n 0, 1) := by decide +kernel
theorem dX12_question_14 : decode cX12_question 14 = .ok (.getfield 299, 3) := by decide +kernel
theorem dX12_question_17 : decode cX12_question 17 = .ok (.getfield 175, 3) := by decide +kernel
theorem dX12_question_2 : decode cX12_question 2 = .ok (.getfield 299, 3) := by decide +kernel
theorem dX12_question_20 : decode cX12_question 20 = .ok (.imul, 1) := by decide +kernel
theorem dX12_question_21 : decode cX12_question 21 = .ok (.iload_n 3, 1) := by decide +kernel
theorem dX12_question_22 : decode cX12_question 22 = .ok (.iadd, 1) := by decide +kernel
theorem dX12_question_23 : decode cX12_question 23 = .ok (.ireturn, 1) := by decide +kernel
theorem dX12_question_5 : decode cX12_question 5 = .ok (.getfield 207, 3) := by decide +kernel
theorem dX12_question_8 : decode cX12_question 8 = .ok (.imul, 1) := by decide +kernel
theorem dX12_question_9 : decode cX12_question 9 = .ok (.iload_n 2, 1) := by decide +kernel
def vfX12_question : List Cond := List.cons (.code yX12_question cX12_question 4 (some .int)) (apW [.fieldLink RX12 299 "HookPierModel" "pier" "LHookPierModel$Pier;"] (apW wsX120 (wsX110)))
theorem ifX12_question_X12 : ∀ w ∈ wsX120, w ∈ vfX12_question := fun _ h => (List.mem_cons_of_mem _ (List.mem_append_right _ (List.mem_append_left _ h)))
theorem ifX12_question_X11 : ∀ w ∈ wsX110, w ∈ vfX12_question := fun _ h => (List.mem_cons_of_mem _ (List.mem_append_right _ (List.mem_append_right _ h)))
theorem qfX12_question : Good vfX12_question := gd_cons (by decide +kernel) (gd_app (gd_dec (by decide +kernel) : Good [.fieldLink RX12 299 "HookPierModel" "pier" "LHookPierModel$Pier;"]) (gd_app qsX12 qsX11))
set_option maxHeartbeats 2000000 in
set_option maxRecDepth 100000 in
theorem kfX12_question (l : Launch) (dC : Nat → ClassId) (dI : Nat → Nat → Nat) (a0 : Nat) (k1 : Int32) (k2 : Int32) (k3 : Int32) (a4 : Nat) (uq : Nat → Nat) (kq : Nat → ClassId) (g7 : Value) (g8 : Value) (g9 : Value) (g10 : Value) (g11 : Value) (g12 : Value) (g13 : Value) (g14 : Value) (g15 : Value) (g16 : Value) (g17 : Value) (g18 : Value) (g19 : Value) (g20 : Value) (g21 : Value) (g22 : Value) (g23 : Value) (g24 : Value) (g25 : Value) (g26 : Value) (g27 : Value) (g28 : Value) (g29 : Value) (g30 : Value) (g31 : Value) (g32 : Value) (g33 : Value) (g34 : Value) (g35 : Value) (q_q : TX11_q) (sz : Nat) (out : Int32) (h : f_X12_question k1 k2 k3 q_q = out) : Met l yX12_question vfX12_question ({ frames := 0, cells := 0, slots := 0, locals := 0 }) (PC (dC, dI) [.ref a0, .int k1, .int k2, .int k3] sz ((a0, .inr (9, [g7, g8, g9, .ref a4, g10, g11, g12, g13, g14, g15, g16, g17, g18, g19, g20, g21, g22, g23, g24, g25, g26, g27, g28, g29, g30, g31, g32, g33, g34, g35])) :: bX11 a4 uq kq q_q []) (tX11 kq ([]))) (va_Qi (S := Unit) (fun (r : Int32) _ => r = out) (fun _ t => BC (dC, dI) (va_A ((a0, .inr (9, [g7, g8, g9, .ref a4, g10, g11, g12, g13, g14, g15, g16, g17, g18, g19, g20, g21, g22, g23, g24, g25, g26, g27, g28, g29, g30, g31, g32, g33, g34, g35])) :: bX11 a4 uq kq q_q []) sz) ((a0, .inr (9, [g7, g8, g9, .ref a4, g10, g11, g12, g13, g14, g15, g16, g17, g18, g19, g20, g21, g22, g23, g24, g25, g26, g27, g28, g29, g30, g31, g32, g33, g34, g35])) :: bX11 a4 uq kq q_q []) [] t) (va_A ((a0, .inr (9, [g7, g8, g9, .ref a4, g10, g11, g12, g13, g14, g15, g16, g17, g18, g19, g20, g21, g22, g23, g24, g25, g26, g27, g28, g29, g30, g31, g32, g33, g34, g35])) :: bX11 a4 uq kq q_q []) sz)) 0 0 (va_A ((a0, .inr (9, [g7, g8, g9, .ref a4, g10, g11, g12, g13, g14, g15, g16, g17, g18, g19, g20, g21, g22, g23, g24, g25, g26, g27, g28, g29, g30, g31, g32, g33, g34, g35])) :: bX11 a4 uq kq q_q []) sz) := by
  refine Met.ofW (cc := cX12_question) (maxL := 4) (ret := (some .int)) (by decide) rfl ?_
  intro p e s m args below meth c s₁ B0 hml hv
  obtain ⟨rfl, hsz, hP, hK, hD0, hN⟩ := hv
  have hx := B0.exec
  have hb := B0.bytes
  have hr := B0.returns
  have hts := atoms_spec (ws := vfX12_question) B0.pre
  have hown : s.vm.findClass RX12 = some m.cls := findClass_of_methodNamed B0.named
  have hlocks := B0.notSynchronized
  subst hsz
  have hD := hD0.self (sz := s.heap.size)
  generalize hAe : va_A ((a0, .inr (9, [g7, g8, g9, .ref a4, g10, g11, g12, g13, g14, g15, g16, g17, g18, g19, g20, g21, g22, g23, g24, g25, g26, g27, g28, g29, g30, g31, g32, g33, g34, g35])) :: bX11 a4 uq kq q_q []) s.heap.size = A at hD ⊢
  have hA : ∀ q : Nat, s.heap.size ≤ q → A q := fun q h => by rw [← hAe]; exact Or.inr h
  have hS : va_S A s.heap s.heap [] := va_S.rf
  have hP : va_P (dC, dI) vwCl ((a0, .inr (9, [g7, g8, g9, .ref a4, g10, g11, g12, g13, g14, g15, g16, g17, g18, g19, g20, g21, g22, g23, g24, g25, g26, g27, g28, g29, g30, g31, g32, g33, g34, g35])) :: bX11 a4 uq kq q_q []) s.heap := hP
  have hl := lv_entry ([.ref a0, .int k1, .int k2, .int k3]) (n := 4) (Nat.le_of_ble_eq_true rfl)
  rw [lg_entry_eq]
  generalize (lg_sl ([.ref a0, .int k1, .int k2, .int k3]) ++ List.replicate (4 - (lg_sl ([.ref a0, .int k1, .int k2, .int k3])).length) Slot.unset).toArray = ls at hl ⊢
  have hl : lv_has ls 4 [(0, .ref a0), (1, .int k1), (2, .int k2), (3, .int k3)] := hl
  refine W_q (fun QQ hQQ => ?_)
  rw [f_X12_question] at h
  refine lv_iload_n hx hb dX12_question_0 rfl (lv_at hl 1 rfl) ?_
  refine lv_aload_n hx hb dX12_question_1 rfl (lv_at hl 0 rfl) ?_
  refine va_get (D := (dC, dI)) (ci := 9) (v := .ref a4) (C := RX12) (T := TX12) (N := 30) hx hb hts ifX12_question_X12 hown hK hP 0 rfl rfl 3 (by decide) (hts (.fieldLink RX12 299 "HookPierModel" "pier" "LHookPierModel$Pier;") (List.mem_of_getElem? (i := 1) rfl)) (fun _ h9 => h9) rfl dX12_question_2 ?_
  refine va_getN (D := (dC, dI)) (ci := 8) (v := .int q_q.2.1) (C := RX11) (T := TX11) (N := 24) hx hb hts ifX12_question_X11 hown hK hP 1 rfl rfl 1 (by decide) (va_Nw.use rfl (hN.1 (.fieldLinkNest RX12 207 "HookPierModel$Pier" "deep" "I" "HookPierModel") (List.mem_of_getElem? (i := 23) rfl))) (fun _ h9 => h9) rfl dX12_question_5 ?_
  refine lv_imul hx hb dX12_question_8 ?_
  refine lv_iload_n hx hb dX12_question_9 rfl (lv_at hl 2 rfl) ?_
  refine lv_iadd hx hb dX12_question_10 ?_
  refine lv_iconst (v := 1) hx hb dX12_question_11 (by decide) ?_
  refine lv_isub hx hb dX12_question_12 ?_
  refine lv_aload_n hx hb dX12_question_13 rfl (lv_at hl 0 rfl) ?_
  refine va_get (D := (dC, dI)) (ci := 9) (v := .ref a4) (C := RX12) (T := TX12) (N := 30) hx hb hts ifX12_question_X12 hown hK hP 0 rfl rfl 3 (by decide) (hts (.fieldLink RX12 299 "HookPierModel" "pier" "LHookPierModel$Pier;") (List.mem_of_getElem? (i := 1) rfl)) (fun _ h9 => h9) rfl dX12_question_14 ?_
  refine va_getN (D := (dC, dI)) (ci := 8) (v := .int q_q.2.2.2.2.1) (C := RX11) (T := TX11) (N := 24) hx hb hts ifX12_question_X11 hown hK hP 1 rfl rfl 4 (by decide) (va_Nw.use rfl (hN.1 (.fieldLinkNest RX12 175 "HookPierModel$Pier" "baits" "I" "HookPierModel") (List.mem_of_getElem? (i := 26) rfl))) (fun _ h9 => h9) rfl dX12_question_17 ?_
  refine lv_imul hx hb dX12_question_20 ?_
  refine lv_iload_n hx hb dX12_question_21 rfl (lv_at hl 3 rfl) ?_
  refine lv_iadd hx hb dX12_question_22 ?_
  refine lv_topi (fun z22 ez22 => ?_)
  have h := nm_of h z22 ez22
  obtain rfl := h
  have hP9 := hP.sub (ws' := ((a0, .inr (9, [g7, g8, g9, .ref a4, g10, g11, g12, g13, g14, g15, g16, g17, g18, g19, g20, g21, g22, g23, g24, g25, g26, g27, g28, g29, g30, g31, g32, g33, g34, g35])) :: bX11 a4 uq kq q_q [])) [0, 1, 2, 3, 4, 5, 6, 7, 8, 9, 10, 11, 12, 13, 14, 15] rfl
  have hD9 := hD.sub (ws' := ((a0, .inr (9, [g7, g8, g9, .ref a4, g10, g11, g12, g13, g14, g15, g16, g17, g18, g19, g20, g21, g22, g23, g24, g25, g26, g27, g28, g29, g30, g31, g32, g33, g34, g35])) :: bX11 a4 uq kq q_q [])) [0, 1, 2, 3, 4, 5, 6, 7, 8, 9, 10, 11, 12, 13, 14, 15] (by decide) rfl
  have hK9 := hK.sub (tys' := []) [] rfl
  rw [hQQ]
  exact W.iret (v := z22) hx hb hr (fun t ht hW => ⟨⟨z22, (), rfl, rfl, by rw [ht]; exact hP9, va_K.moved hW.alike hK9, hD9⟩, hS.F ht⟩) hS.2.2 dX12_question_23
theorem dX12_good_0 : decode cX12_good 0 = .ok (.aload_n 0, 1) := by decide +kernel
theorem dX12_good_1 : decode cX12_good 1 = .ok (.iconst 0, 1) := by decide +kernel
theorem dX12_good_10 : decode cX12_good 10 = .ok (.iload_n 1, 1) := by decide +kernel
theorem dX12_good_11 : decode cX12_good 11 = .ok (.ireturn, 1) := by decide +kernel
theorem dX12_good_2 : decode cX12_good 2 = .ok (.putfield 39, 3) := by decide +kernel
theorem dX12_good_5 : decode cX12_good 5 = .ok (.aload_n 0, 1) := by decide +kernel
theorem dX12_good_6 : decode cX12_good 6 = .ok (.iconst (-1), 1) := by decide +kernel
theorem dX12_good_7 : decode cX12_good 7 = .ok (.putfield 9, 3) := by decide +kernel
def vfX12_good : List Cond := List.cons (.code yX12_good cX12_good 2 (some .int)) (apW [.fieldLink RX12 39 "HookPierModel" "trouble" "I", .fieldLink RX12 9 "HookPierModel" "where" "I"] (wsX120))
theorem ifX12_good_X12 : ∀ w ∈ wsX120, w ∈ vfX12_good := fun _ h => (List.mem_cons_of_mem _ (List.mem_append_right _ h))
theorem qfX12_good : Good vfX12_good := gd_cons (by decide +kernel) (gd_app (gd_dec (by decide +kernel) : Good [.fieldLink RX12 39 "HookPierModel" "trouble" "I", .fieldLink RX12 9 "HookPierModel" "where" "I"]) qsX12)
set_option maxHeartbeats 2000000 in
set_option maxRecDepth 100000 in
theorem kfX12_good (l : Launch) (dC : Nat → ClassId) (dI : Nat → Nat → Nat) (a0 : Nat) (k1 : Int32) (m_t : TX12_t) (g3 : Value) (g4 : Value) (g5 : Value) (g6 : Value) (g7 : Value) (g8 : Value) (g9 : Value) (g10 : Value) (g11 : Value) (g12 : Value) (g13 : Value) (g14 : Value) (g15 : Value) (g16 : Value) (g17 : Value) (g18 : Value) (g19 : Value) (g20 : Value) (g21 : Value) (g22 : Value) (g23 : Value) (g24 : Value) (g25 : Value) (g26 : Value) (g27 : Value) (g28 : Value) (g29 : Value) (sz : Nat) (out : (Int32 × TX12_t)) (h : f_X12_good k1 m_t = out) : Met l yX12_good vfX12_good ({ frames := 0, cells := 0, slots := 0, locals := 0 }) (PC (dC, dI) [.ref a0, .int k1] sz ([(a0, .inr (9, [.int m_t.1, .int m_t.2.1, .int m_t.2.2, g3, g4, g5, g6, g7, g8, g9, g10, g11, g12, g13, g14, g15, g16, g17, g18, g19, g20, g21, g22, g23, g24, g25, g26, g27, g28, g29]))]) ([])) (va_Qi (S := Unit) (fun (r : Int32) _ => r = out.1) (fun _ t => BC (dC, dI) (va_A ([(a0, .inr (9, [.int m_t.1, .int m_t.2.1, .int m_t.2.2, g3, g4, g5, g6, g7, g8, g9, g10, g11, g12, g13, g14, g15, g16, g17, g18, g19, g20, g21, g22, g23, g24, g25, g26, g27, g28, g29]))]) sz) ([(a0, .inr (9, [.int out.2.1, .int out.2.2.1, .int out.2.2.2, g3, g4, g5, g6, g7, g8, g9, g10, g11, g12, g13, g14, g15, g16, g17, g18, g19, g20, g21, g22, g23, g24, g25, g26, g27, g28, g29]))]) [] t) (va_A ([(a0, .inr (9, [.int m_t.1, .int m_t.2.1, .int m_t.2.2, g3, g4, g5, g6, g7, g8, g9, g10, g11, g12, g13, g14, g15, g16, g17, g18, g19, g20, g21, g22, g23, g24, g25, g26, g27, g28, g29]))]) sz)) 0 0 (va_A ([(a0, .inr (9, [.int m_t.1, .int m_t.2.1, .int m_t.2.2, g3, g4, g5, g6, g7, g8, g9, g10, g11, g12, g13, g14, g15, g16, g17, g18, g19, g20, g21, g22, g23, g24, g25, g26, g27, g28, g29]))]) sz) := by
  refine Met.ofW (cc := cX12_good) (maxL := 2) (ret := (some .int)) (by decide) rfl ?_
  intro p e s m args below meth c s₁ B0 hml hv
  obtain ⟨rfl, hsz, hP, hK, hD0, hN⟩ := hv
  have hx := B0.exec
  have hb := B0.bytes
  have hr := B0.returns
  have hts := atoms_spec (ws := vfX12_good) B0.pre
  have hown : s.vm.findClass RX12 = some m.cls := findClass_of_methodNamed B0.named
  have hlocks := B0.notSynchronized
  subst hsz
  have hD := hD0.self (sz := s.heap.size)
  generalize hAe : va_A ([(a0, .inr (9, [.int m_t.1, .int m_t.2.1, .int m_t.2.2, g3, g4, g5, g6, g7, g8, g9, g10, g11, g12, g13, g14, g15, g16, g17, g18, g19, g20, g21, g22, g23, g24, g25, g26, g27, g28, g29]))]) s.heap.size = A at hD ⊢
  have hA : ∀ q : Nat, s.heap.size ≤ q → A q := fun q h => by rw [← hAe]; exact Or.inr h
  have hS : va_S A s.heap s.heap [] := va_S.rf
  have hP : va_P (dC, dI) vwCl ([(a0, .inr (9, [.int m_t.1, .int m_t.2.1, .int m_t.2.2, g3, g4, g5, g6, g7, g8, g9, g10, g11, g12, g13, g14, g15, g16, g17, g18, g19, g20, g21, g22, g23, g24, g25, g26, g27, g28, g29]))]) s.heap := hP
  have hl := lv_entry ([.ref a0, .int k1]) (n := 2) (Nat.le_of_ble_eq_true rfl)
  rw [lg_entry_eq]
  generalize (lg_sl ([.ref a0, .int k1]) ++ List.replicate (2 - (lg_sl ([.ref a0, .int k1])).length) Slot.unset).toArray = ls at hl ⊢
  have hl : lv_has ls 2 [(0, .ref a0), (1, .int k1)] := hl
  refine W_q (fun QQ hQQ => ?_)
  rw [f_X12_good] at h
  refine lv_aload_n hx hb dX12_good_0 rfl (lv_at hl 0 rfl) ?_
  refine lv_iconst (v := 0) hx hb dX12_good_1 (by decide) ?_
  refine va_put (D := (dC, dI)) (ci := 9) (v := .int 0) (ty := .int) (C := RX12) (T := TX12) (N := 30) hx hb hts ifX12_good_X12 tyX12 tyX12_ok nmX12 hown hK hP hD hS 0 rfl rfl 1 (by decide) (hts (.fieldLink RX12 39 "HookPierModel" "trouble" "I") (List.mem_of_getElem? (i := 1) rfl)) (fun _ h9 => h9) rfl (by decide +kernel) rfl rfl (Nat.le_of_ble_eq_true rfl) dX12_good_2 (fun H locs hP hD hS => ?_)
  have hP : va_P (dC, dI) vwCl ([(a0, .inr (9, [.int m_t.1, .int 0, .int m_t.2.2, g3, g4, g5, g6, g7, g8, g9, g10, g11, g12, g13, g14, g15, g16, g17, g18, g19, g20, g21, g22, g23, g24, g25, g26, g27, g28, g29]))]) H := hP
  have hD : va_D A ([(a0, .inr (9, [.int m_t.1, .int 0, .int m_t.2.2, g3, g4, g5, g6, g7, g8, g9, g10, g11, g12, g13, g14, g15, g16, g17, g18, g19, g20, g21, g22, g23, g24, g25, g26, g27, g28, g29]))]) := hD
  refine lv_aload_n hx hb dX12_good_5 rfl (lv_at hl 0 rfl) ?_
  refine lv_iconst (v := (-1)) hx hb dX12_good_6 (by decide) ?_
  refine va_put (D := (dC, dI)) (ci := 9) (v := .int (-1)) (ty := .int) (C := RX12) (T := TX12) (N := 30) hx hb hts ifX12_good_X12 tyX12 tyX12_ok nmX12 hown hK hP hD hS 0 rfl rfl 2 (by decide) (hts (.fieldLink RX12 9 "HookPierModel" "where" "I") (List.mem_of_getElem? (i := 2) rfl)) (fun _ h9 => h9) rfl (by decide +kernel) rfl rfl (Nat.le_of_ble_eq_true rfl) dX12_good_7 (fun H locs hP hD hS => ?_)
  have hP : va_P (dC, dI) vwCl ([(a0, .inr (9, [.int m_t.1, .int 0, .int (-1), g3, g4, g5, g6, g7, g8, g9, g10, g11, g12, g13, g14, g15, g16, g17, g18, g19, g20, g21, g22, g23, g24, g25, g26, g27, g28, g29]))]) H := hP
  have hD : va_D A ([(a0, .inr (9, [.int m_t.1, .int 0, .int (-1), g3, g4, g5, g6, g7, g8, g9, g10, g11, g12, g13, g14, g15, g16, g17, g18, g19, g20, g21, g22, g23, g24, g25, g26, g27, g28, g29]))]) := hD
  refine lv_iload_n hx hb dX12_good_10 rfl (lv_at hl 1 rfl) ?_
  obtain rfl := h
  have hP9 := hP.sub (ws' := ([(a0, .inr (9, [.int m_t.1, .int 0, .int (-1), g3, g4, g5, g6, g7, g8, g9, g10, g11, g12, g13, g14, g15, g16, g17, g18, g19, g20, g21, g22, g23, g24, g25, g26, g27, g28, g29]))])) [0] rfl
  have hD9 := hD.sub (ws' := ([(a0, .inr (9, [.int m_t.1, .int 0, .int (-1), g3, g4, g5, g6, g7, g8, g9, g10, g11, g12, g13, g14, g15, g16, g17, g18, g19, g20, g21, g22, g23, g24, g25, g26, g27, g28, g29]))])) [0] (by decide) rfl
  have hK9 := hK.sub (tys' := []) [] rfl
  rw [hQQ]
  exact W.iret (v := k1) hx hb hr (fun t ht hW => ⟨⟨k1, (), rfl, rfl, by rw [ht]; exact hP9, va_K.moved hW.alike hK9, hD9⟩, hS.F ht⟩) hS.2.2 dX12_good_11
theorem dX12_granted_0 : decode cX12_granted 0 = .ok (.aload_n 0, 1) := by decide +kernel
theorem dX12_granted_1 : decode cX12_granted 1 = .ok (.iconst 0, 1) := by decide +kernel
theorem dX12_granted_2 : decode cX12_granted 2 = .ok (.invokevirtual 46, 3) := by decide +kernel
theorem dX12_granted_5 : decode cX12_granted 5 = .ok (.pop, 1) := by decide +kernel
theorem dX12_granted_6 : decode cX12_granted 6 = .ok (.iconst 1, 1) := by decide +kernel
theorem dX12_granted_7 : decode cX12_granted 7 = .ok (.ireturn, 1) := by decide +kernel
def vfX12_granted : List Cond := List.cons (.code yX12_granted cX12_granted 1 (some .boolean)) (apW [.methodLink RX12 46 yX12_good, .instanceMethod yX12_good, .selects RX12 yX12_good yX12_good, .initialized RX12] (vfX12_good))
theorem qfX12_granted : Good vfX12_granted := gd_cons (by decide +kernel) (gd_app (gd_dec (by decide +kernel) : Good [.methodLink RX12 46 yX12_good, .instanceMethod yX12_good, .selects RX12 yX12_good yX12_good, .initialized RX12]) qfX12_good)
theorem gfX12_granted_0 : GoodIn vfX12_granted (wsV RX12 46 RX12 yX12_good vfX12_good) := goodIn_app (goodIn_r [.methodLink RX12 46 yX12_good, .instanceMethod yX12_good, .selects RX12 yX12_good yX12_good, .initialized RX12] [1, 2, 3, 4] rfl (by decide +kernel)) (goodIn_m (fun _ h => (List.mem_cons_of_mem _ (List.mem_append_right _ h))) qfX12_good)
set_option maxHeartbeats 2000000 in
set_option maxRecDepth 100000 in
theorem kfX12_granted (l : Launch) (dC : Nat → ClassId) (dI : Nat → Nat → Nat) (a0 : Nat) (m_t : TX12_t) (g2 : Value) (g3 : Value) (g4 : Value) (g5 : Value) (g6 : Value) (g7 : Value) (g8 : Value) (g9 : Value) (g10 : Value) (g11 : Value) (g12 : Value) (g13 : Value) (g14 : Value) (g15 : Value) (g16 : Value) (g17 : Value) (g18 : Value) (g19 : Value) (g20 : Value) (g21 : Value) (g22 : Value) (g23 : Value) (g24 : Value) (g25 : Value) (g26 : Value) (g27 : Value) (g28 : Value) (sz : Nat) (out : TX12_t) (h : f_X12_granted m_t = out) : Met l yX12_granted vfX12_granted ({ frames := 1, cells := 0, slots := 0, locals := 21 }) (PC (dC, dI) [.ref a0] sz ([(a0, .inr (9, [.int m_t.1, .int m_t.2.1, .int m_t.2.2, g2, g3, g4, g5, g6, g7, g8, g9, g10, g11, g12, g13, g14, g15, g16, g17, g18, g19, g20, g21, g22, g23, g24, g25, g26, g27, g28]))]) ([])) (va_Qi (S := Unit) (fun (r : Int32) _ => r = 1 ∧ (0 ≤ r.toInt ∧ r.toInt ≤ 1)) (fun _ t => BC (dC, dI) (va_A ([(a0, .inr (9, [.int m_t.1, .int m_t.2.1, .int m_t.2.2, g2, g3, g4, g5, g6, g7, g8, g9, g10, g11, g12, g13, g14, g15, g16, g17, g18, g19, g20, g21, g22, g23, g24, g25, g26, g27, g28]))]) sz) ([(a0, .inr (9, [.int out.1, .int out.2.1, .int out.2.2, g2, g3, g4, g5, g6, g7, g8, g9, g10, g11, g12, g13, g14, g15, g16, g17, g18, g19, g20, g21, g22, g23, g24, g25, g26, g27, g28]))]) [] t) (va_A ([(a0, .inr (9, [.int m_t.1, .int m_t.2.1, .int m_t.2.2, g2, g3, g4, g5, g6, g7, g8, g9, g10, g11, g12, g13, g14, g15, g16, g17, g18, g19, g20, g21, g22, g23, g24, g25, g26, g27, g28]))]) sz)) 0 0 (va_A ([(a0, .inr (9, [.int m_t.1, .int m_t.2.1, .int m_t.2.2, g2, g3, g4, g5, g6, g7, g8, g9, g10, g11, g12, g13, g14, g15, g16, g17, g18, g19, g20, g21, g22, g23, g24, g25, g26, g27, g28]))]) sz) := by
  refine Met.ofW (cc := cX12_granted) (maxL := 1) (ret := (some .boolean)) (by decide) rfl ?_
  intro p e s m args below meth c s₁ B0 hml hv
  obtain ⟨rfl, hsz, hP, hK, hD0, hN⟩ := hv
  have hx := B0.exec
  have hb := B0.bytes
  have hr := B0.returns
  have hts := atoms_spec (ws := vfX12_granted) B0.pre
  have hown : s.vm.findClass RX12 = some m.cls := findClass_of_methodNamed B0.named
  have hlocks := B0.notSynchronized
  subst hsz
  have hD := hD0.self (sz := s.heap.size)
  generalize hAe : va_A ([(a0, .inr (9, [.int m_t.1, .int m_t.2.1, .int m_t.2.2, g2, g3, g4, g5, g6, g7, g8, g9, g10, g11, g12, g13, g14, g15, g16, g17, g18, g19, g20, g21, g22, g23, g24, g25, g26, g27, g28]))]) s.heap.size = A at hD ⊢
  have hA : ∀ q : Nat, s.heap.size ≤ q → A q := fun q h => by rw [← hAe]; exact Or.inr h
  have hS : va_S A s.heap s.heap [] := va_S.rf
  have hP : va_P (dC, dI) vwCl ([(a0, .inr (9, [.int m_t.1, .int m_t.2.1, .int m_t.2.2, g2, g3, g4, g5, g6, g7, g8, g9, g10, g11, g12, g13, g14, g15, g16, g17, g18, g19, g20, g21, g22, g23, g24, g25, g26, g27, g28]))]) s.heap := hP
  have hl := lv_entry ([.ref a0]) (n := 1) (Nat.le_of_ble_eq_true rfl)
  rw [lg_entry_eq]
  generalize (lg_sl ([.ref a0]) ++ List.replicate (1 - (lg_sl ([.ref a0])).length) Slot.unset).toArray = ls at hl ⊢
  have hl : lv_has ls 1 [(0, .ref a0)] := hl
  refine W_q (fun QQ hQQ => ?_)
  rw [f_X12_granted] at h
  refine lv_aload_n hx hb dX12_granted_0 rfl (lv_at hl 0 rfl) ?_
  refine lv_iconst (v := 0) hx hb dX12_granted_1 (by decide) ?_
  obtain ⟨o2, eo2⟩ : ∃ o, o = f_X12_good (0 : Int32) m_t := ⟨_, rfl⟩
  have h := nm_of h o2 eo2
  refine cl_i (wc := ([(a0, .inr (9, [.int m_t.1, .int m_t.2.1, .int m_t.2.2, g2, g3, g4, g5, g6, g7, g8, g9, g10, g11, g12, g13, g14, g15, g16, g17, g18, g19, g20, g21, g22, g23, g24, g25, g26, g27, g28]))])) (wr := []) (va_runV (As := [.int 0]) (rest := []) ⟨hx, hb, hml, hown, hts⟩ (kfX12_good l dC dI a0 (0 : Int32) m_t (g2) (g3) (g4) (g5) (g6) (g7) (g8) (g9) (g10) (g11) (g12) (g13) (g14) (g15) (g16) (g17) (g18) (g19) (g20) (g21) (g22) (g23) (g24) (g25) (g26) (g27) (g28) s.heap.size o2 eo2.symm) (cwV 1 hts gfX12_granted_0 rfl rfl rfl (by decide +kernel) ⟨(Nat.le_of_ble_eq_true rfl), (Nat.le_of_ble_eq_true rfl)⟩) (PV (hP.sub (ws' := ([(a0, .inr (9, [.int m_t.1, .int m_t.2.1, .int m_t.2.2, g2, g3, g4, g5, g6, g7, g8, g9, g10, g11, g12, g13, g14, g15, g16, g17, g18, g19, g20, g21, g22, g23, g24, g25, g26, g27, g28]))])) [0] rfl) (hK.sub (tys' := ([])) [] rfl) (hD.sub (ws' := ([(a0, .inr (9, [.int m_t.1, .int m_t.2.1, .int m_t.2.2, g2, g3, g4, g5, g6, g7, g8, g9, g10, g11, g12, g13, g14, g15, g16, g17, g18, g19, g20, g21, g22, g23, g24, g25, g26, g27, g28]))])) [0] (by decide) rfl) hN 0 rfl rfl) rfl rfl hl.1 rfl (lv_room (Nat.le_of_ble_eq_true rfl)) dX12_granted_2 ⟨(Nat.le_of_ble_eq_true rfl), (Nat.le_of_ble_eq_true rfl)⟩) hP hD hK hS hA [0] [] rfl rfl (by decide) (by decide) (fun r2 _ H locs hw hP hD _ hS => ?_)
  obtain rfl := hw
  have hP : va_P (dC, dI) vwCl ([(a0, .inr (9, [.int o2.2.1, .int o2.2.2.1, .int o2.2.2.2, g2, g3, g4, g5, g6, g7, g8, g9, g10, g11, g12, g13, g14, g15, g16, g17, g18, g19, g20, g21, g22, g23, g24, g25, g26, g27, g28]))]) H := hP
  have hD : va_D A ([(a0, .inr (9, [.int o2.2.1, .int o2.2.2.1, .int o2.2.2.2, g2, g3, g4, g5, g6, g7, g8, g9, g10, g11, g12, g13, g14, g15, g16, g17, g18, g19, g20, g21, g22, g23, g24, g25, g26, g27, g28]))]) := hD
  refine lv_pop hx hb dX12_granted_5 rfl ?_
  refine lv_iconst (v := 1) hx hb dX12_granted_6 (by decide) ?_
  obtain rfl := h
  have hP9 := hP.sub (ws' := ([(a0, .inr (9, [.int o2.2.1, .int o2.2.2.1, .int o2.2.2.2, g2, g3, g4, g5, g6, g7, g8, g9, g10, g11, g12, g13, g14, g15, g16, g17, g18, g19, g20, g21, g22, g23, g24, g25, g26, g27, g28]))])) [0] rfl
  have hD9 := hD.sub (ws' := ([(a0, .inr (9, [.int o2.2.1, .int o2.2.2.1, .int o2.2.2.2, g2, g3, g4, g5, g6, g7, g8, g9, g10, g11, g12, g13, g14, g15, g16, g17, g18, g19, g20, g21, g22, g23, g24, g25, g26, g27, g28]))])) [0] (by decide) rfl
  have hK9 := hK.sub (tys' := []) [] rfl
  rw [hQQ]
  exact W.zret (v := (1 : Int32)) hx hb hr rfl (fun t ht hW => ⟨⟨(1 : Int32), (), rfl, ⟨rfl, (by decide)⟩, by rw [ht]; exact hP9, va_K.moved hW.alike hK9, hD9⟩, hS.F ht⟩) hS.2.2 dX12_granted_7
theorem dX12_refused_0 : decode cX12_refused 0 = .ok (.aload_n 0, 1) := by decide +kernel
theorem dX12_refused_1 : decode cX12_refused 1 = .ok (.iload_n 1, 1) := by decide +kernel
theorem dX12_refused_10 : decode cX12_refused 10 = .ok (.iconst (-1), 1) := by decide +kernel
theorem dX12_refused_11 : decode cX12_refused 11 = .ok (.ireturn, 1) := by decide +kernel
theorem dX12_refused_2 : decode cX12_refused 2 = .ok (.putfield 39, 3) := by decide +kernel
theorem dX12_refused_5 : decode cX12_refused 5 = .ok (.aload_n 0, 1) := by decide +kernel
theorem dX12_refused_6 : decode cX12_refused 6 = .ok (.iconst (-1), 1) := by decide +kernel
theorem dX12_refused_7 : decode cX12_refused 7 = .ok (.putfield 9, 3) := by decide +kernel
def vfX12_refused : List Cond := List.cons (.code yX12_refused cX12_refused 2 (some .int)) (apW [.fieldLink RX12 39 "HookPierModel" "trouble" "I", .fieldLink RX12 9 "HookPierModel" "where" "I"] (wsX120))
theorem ifX12_refused_X12 : ∀ w ∈ wsX120, w ∈ vfX12_refused := fun _ h => (List.mem_cons_of_mem _ (List.mem_append_right _ h))
theorem qfX12_refused : Good vfX12_refused := gd_cons (by decide +kernel) (gd_app (gd_dec (by decide +kernel) : Good [.fieldLink RX12 39 "HookPierModel" "trouble" "I", .fieldLink RX12 9 "HookPierModel" "where" "I"]) qsX12)
set_option maxHeartbeats 2000000 in
set_option maxRecDepth 100000 in
theorem kfX12_refused (l : Launch) (dC : Nat → ClassId) (dI : Nat → Nat → Nat) (a0 : Nat) (k1 : Int32) (m_t : TX12_t) (g3 : Value) (g4 : Value) (g5 : Value) (g6 : Value) (g7 : Value) (g8 : Value) (g9 : Value) (g10 : Value) (g11 : Value) (g12 : Value) (g13 : Value) (g14 : Value) (g15 : Value) (g16 : Value) (g17 : Value) (g18 : Value) (g19 : Value) (g20 : Value) (g21 : Value) (g22 : Value) (g23 : Value) (g24 : Value) (g25 : Value) (g26 : Value) (g27 : Value) (g28 : Value) (g29 : Value) (sz : Nat) (out : TX12_t) (h : f_X12_refused k1 m_t = out) : Met l yX12_refused vfX12_refused ({ frames := 0, cells := 0, slots := 0, locals := 0 }) (PC (dC, dI) [.ref a0, .int k1] sz ([(a0, .inr (9, [.int m_t.1, .int m_t.2.1, .int m_t.2.2, g3, g4, g5, g6, g7, g8, g9, g10, g11, g12, g13, g14, g15, g16, g17, g18, g19, g20, g21, g22, g23, g24, g25, g26, g27, g28, g29]))]) ([])) (va_Qi (S := Unit) (fun (r : Int32) _ => r = (-1)) (fun _ t => BC (dC, dI) (va_A ([(a0, .inr (9, [.int m_t.1, .int m_t.2.1, .int m_t.2.2, g3, g4, g5, g6, g7, g8, g9, g10, g11, g12, g13, g14, g15, g16, g17, g18, g19, g20, g21, g22, g23, g24, g25, g26, g27, g28, g29]))]) sz) ([(a0, .inr (9, [.int out.1, .int out.2.1, .int out.2.2, g3, g4, g5, g6, g7, g8, g9, g10, g11, g12, g13, g14, g15, g16, g17, g18, g19, g20, g21, g22, g23, g24, g25, g26, g27, g28, g29]))]) [] t) (va_A ([(a0, .inr (9, [.int m_t.1, .int m_t.2.1, .int m_t.2.2, g3, g4, g5, g6, g7, g8, g9, g10, g11, g12, g13, g14, g15, g16, g17, g18, g19, g20, g21, g22, g23, g24, g25, g26, g27, g28, g29]))]) sz)) 0 0 (va_A ([(a0, .inr (9, [.int m_t.1, .int m_t.2.1, .int m_t.2.2, g3, g4, g5, g6, g7, g8, g9, g10, g11, g12, g13, g14, g15, g16, g17, g18, g19, g20, g21, g22, g23, g24, g25, g26, g27, g28, g29]))]) sz) := by
  refine Met.ofW (cc := cX12_refused) (maxL := 2) (ret := (some .int)) (by decide) rfl ?_
  intro p e s m args below meth c s₁ B0 hml hv
  obtain ⟨rfl, hsz, hP, hK, hD0, hN⟩ := hv
  have hx := B0.exec
  have hb := B0.bytes
  have hr := B0.returns
  have hts := atoms_spec (ws := vfX12_refused) B0.pre
  have hown : s.vm.findClass RX12 = some m.cls := findClass_of_methodNamed B0.named
  have hlocks := B0.notSynchronized
  subst hsz
  have hD := hD0.self (sz := s.heap.size)
  generalize hAe : va_A ([(a0, .inr (9, [.int m_t.1, .int m_t.2.1, .int m_t.2.2, g3, g4, g5, g6, g7, g8, g9, g10, g11, g12, g13, g14, g15, g16, g17, g18, g19, g20, g21, g22, g23, g24, g25, g26, g27, g28, g29]))]) s.heap.size = A at hD ⊢
  have hA : ∀ q : Nat, s.heap.size ≤ q → A q := fun q h => by rw [← hAe]; exact Or.inr h
  have hS : va_S A s.heap s.heap [] := va_S.rf
  have hP : va_P (dC, dI) vwCl ([(a0, .inr (9, [.int m_t.1, .int m_t.2.1, .int m_t.2.2, g3, g4, g5, g6, g7, g8, g9, g10, g11, g12, g13, g14, g15, g16, g17, g18, g19, g20, g21, g22, g23, g24, g25, g26, g27, g28, g29]))]) s.heap := hP
  have hl := lv_entry ([.ref a0, .int k1]) (n := 2) (Nat.le_of_ble_eq_true rfl)
  rw [lg_entry_eq]
  generalize (lg_sl ([.ref a0, .int k1]) ++ List.replicate (2 - (lg_sl ([.ref a0, .int k1])).length) Slot.unset).toArray = ls at hl ⊢
  have hl : lv_has ls 2 [(0, .ref a0), (1, .int k1)] := hl
  refine W_q (fun QQ hQQ => ?_)
  rw [f_X12_refused] at h
  refine lv_aload_n hx hb dX12_refused_0 rfl (lv_at hl 0 rfl) ?_
  refine lv_iload_n hx hb dX12_refused_1 rfl (lv_at hl 1 rfl) ?_
  refine va_put (D := (dC, dI)) (ci := 9) (v := .int k1) (ty := .int) (C := RX12) (T := TX12) (N := 30) hx hb hts ifX12_refused_X12 tyX12 tyX12_ok nmX12 hown hK hP hD hS 0 rfl rfl 1 (by decide) (hts (.fieldLink RX12 39 "HookPierModel" "trouble" "I") (List.mem_of_getElem? (i := 1) rfl)) (fun _ h9 => h9) rfl (by decide +kernel) rfl rfl (Nat.le_of_ble_eq_true rfl) dX12_refused_2 (fun H locs hP hD hS => ?_)
  have hP : va_P (dC, dI) vwCl ([(a0, .inr (9, [.int m_t.1, .int k1, .int m_t.2.2, g3, g4, g5, g6, g7, g8, g9, g10, g11, g12, g13, g14, g15, g16, g17, g18, g19, g20, g21, g22, g23, g24, g25, g26, g27, g28, g29]))]) H := hP
  have hD : va_D A ([(a0, .inr (9, [.int m_t.1, .int k1, .int m_t.2.2, g3, g4, g5, g6, g7, g8, g9, g10, g11, g12, g13, g14, g15, g16, g17, g18, g19, g20, g21, g22, g23, g24, g25, g26, g27, g28, g29]))]) := hD
  refine lv_aload_n hx hb dX12_refused_5 rfl (lv_at hl 0 rfl) ?_
  refine lv_iconst (v := (-1)) hx hb dX12_refused_6 (by decide) ?_
  refine va_put (D := (dC, dI)) (ci := 9) (v := .int (-1)) (ty := .int) (C := RX12) (T := TX12) (N := 30) hx hb hts ifX12_refused_X12 tyX12 tyX12_ok nmX12 hown hK hP hD hS 0 rfl rfl 2 (by decide) (hts (.fieldLink RX12 9 "HookPierModel" "where" "I") (List.mem_of_getElem? (i := 2) rfl)) (fun _ h9 => h9) rfl (by decide +kernel) rfl rfl (Nat.le_of_ble_eq_true rfl) dX12_refused_7 (fun H locs hP hD hS => ?_)
  have hP : va_P (dC, dI) vwCl ([(a0, .inr (9, [.int m_t.1, .int k1, .int (-1), g3, g4, g5, g6, g7, g8, g9, g10, g11, g12, g13, g14, g15, g16, g17, g18, g19, g20, g21, g22, g23, g24, g25, g26, g27, g28, g29]))]) H := hP
  have hD : va_D A ([(a0, .inr (9, [.int m_t.1, .int k1, .int (-1), g3, g4, g5, g6, g7, g8, g9, g10, g11, g12, g13, g14, g15, g16, g17, g18, g19, g20, g21, g22, g23, g24, g25, g26, g27, g28, g29]))]) := hD
  refine lv_iconst (v := (-1)) hx hb dX12_refused_10 (by decide) ?_
  obtain rfl := h
  have hP9 := hP.sub (ws' := ([(a0, .inr (9, [.int m_t.1, .int k1, .int (-1), g3, g4, g5, g6, g7, g8, g9, g10, g11, g12, g13, g14, g15, g16, g17, g18, g19, g20, g21, g22, g23, g24, g25, g26, g27, g28, g29]))])) [0] rfl
  have hD9 := hD.sub (ws' := ([(a0, .inr (9, [.int m_t.1, .int k1, .int (-1), g3, g4, g5, g6, g7, g8, g9, g10, g11, g12, g13, g14, g15, g16, g17, g18, g19, g20, g21, g22, g23, g24, g25, g26, g27, g28, g29]))])) [0] (by decide) rfl
  have hK9 := hK.sub (tys' := []) [] rfl
  rw [hQQ]
  exact W.iret (v := (-1 : Int32)) hx hb hr (fun t ht hW => ⟨⟨(-1 : Int32), (), rfl, rfl, by rw [ht]; exact hP9, va_K.moved hW.alike hK9, hD9⟩, hS.F ht⟩) hS.2.2 dX12_refused_11
theorem dX12_denied_0 : decode cX12_denied 0 = .ok (.aload_n 0, 1) := by decide +kernel
theorem dX12_denied_1 : decode cX12_denied 1 = .ok (.iload_n 1, 1) := by decide +kernel
theorem dX12_denied_2 : decode cX12_denied 2 = .ok (.invokevirtual 42, 3) := by decide +kernel
theorem dX12_denied_5 : decode cX12_denied 5 = .ok (.pop, 1) := by decide +kernel
theorem dX12_denied_6 : decode cX12_denied 6 = .ok (.iconst 0, 1) := by decide +kernel
theorem dX12_denied_7 : decode cX12_denied 7 = .ok (.ireturn, 1) := by decide +kernel
def vfX12_denied : List Cond := List.cons (.code yX12_denied cX12_denied 2 (some .boolean)) (apW [.methodLink RX12 42 yX12_refused, .instanceMethod yX12_refused, .selects RX12 yX12_refused yX12_refused, .initialized RX12] (vfX12_refused))
theorem qfX12_denied : Good vfX12_denied := gd_cons (by decide +kernel) (gd_app (gd_dec (by decide +kernel) : Good [.methodLink RX12 42 yX12_refused, .instanceMethod yX12_refused, .selects RX12 yX12_refused yX12_refused, .initialized RX12]) qfX12_refused)
theorem gfX12_denied_0 : GoodIn vfX12_denied (wsV RX12 42 RX12 yX12_refused vfX12_refused) := goodIn_app (goodIn_r [.methodLink RX12 42 yX12_refused, .instanceMethod yX12_refused, .selects RX12 yX12_refused yX12_refused, .initialized RX12] [1, 2, 3, 4] rfl (by decide +kernel)) (goodIn_m (fun _ h => (List.mem_cons_of_mem _ (List.mem_append_right _ h))) qfX12_refused)
set_option maxHeartbeats 2000000 in
set_option maxRecDepth 100000 in
theorem kfX12_denied (l : Launch) (dC : Nat → ClassId) (dI : Nat → Nat → Nat) (a0 : Nat) (k1 : Int32) (m_t : TX12_t) (g3 : Value) (g4 : Value) (g5 : Value) (g6 : Value) (g7 : Value) (g8 : Value) (g9 : Value) (g10 : Value) (g11 : Value) (g12 : Value) (g13 : Value) (g14 : Value) (g15 : Value) (g16 : Value) (g17 : Value) (g18 : Value) (g19 : Value) (g20 : Value) (g21 : Value) (g22 : Value) (g23 : Value) (g24 : Value) (g25 : Value) (g26 : Value) (g27 : Value) (g28 : Value) (g29 : Value) (sz : Nat) (out : TX12_t) (h : f_X12_denied k1 m_t = out) : Met l yX12_denied vfX12_denied ({ frames := 1, cells := 0, slots := 0, locals := 21 }) (PC (dC, dI) [.ref a0, .int k1] sz ([(a0, .inr (9, [.int m_t.1, .int m_t.2.1, .int m_t.2.2, g3, g4, g5, g6, g7, g8, g9, g10, g11, g12, g13, g14, g15, g16, g17, g18, g19, g20, g21, g22, g23, g24, g25, g26, g27, g28, g29]))]) ([])) (va_Qi (S := Unit) (fun (r : Int32) _ => r = 0 ∧ (0 ≤ r.toInt ∧ r.toInt ≤ 1)) (fun _ t => BC (dC, dI) (va_A ([(a0, .inr (9, [.int m_t.1, .int m_t.2.1, .int m_t.2.2, g3, g4, g5, g6, g7, g8, g9, g10, g11, g12, g13, g14, g15, g16, g17, g18, g19, g20, g21, g22, g23, g24, g25, g26, g27, g28, g29]))]) sz) ([(a0, .inr (9, [.int out.1, .int out.2.1, .int out.2.2, g3, g4, g5, g6, g7, g8, g9, g10, g11, g12, g13, g14, g15, g16, g17, g18, g19, g20, g21, g22, g23, g24, g25, g26, g27, g28, g29]))]) [] t) (va_A ([(a0, .inr (9, [.int m_t.1, .int m_t.2.1, .int m_t.2.2, g3, g4, g5, g6, g7, g8, g9, g10, g11, g12, g13, g14, g15, g16, g17, g18, g19, g20, g21, g22, g23, g24, g25, g26, g27, g28, g29]))]) sz)) 0 0 (va_A ([(a0, .inr (9, [.int m_t.1, .int m_t.2.1, .int m_t.2.2, g3, g4, g5, g6, g7, g8, g9, g10, g11, g12, g13, g14, g15, g16, g17, g18, g19, g20, g21, g22, g23, g24, g25, g26, g27, g28, g29]))]) sz) := by
  refine Met.ofW (cc := cX12_denied) (maxL := 2) (ret := (some .boolean)) (by decide) rfl ?_
  intro p e s m args below meth c s₁ B0 hml hv
  obtain ⟨rfl, hsz, hP, hK, hD0, hN⟩ := hv
  have hx := B0.exec
  have hb := B0.bytes
  have hr := B0.returns
  have hts := atoms_spec (ws := vfX12_denied) B0.pre
  have hown : s.vm.findClass RX12 = some m.cls := findClass_of_methodNamed B0.named
  have hlocks := B0.notSynchronized
  subst hsz
  have hD := hD0.self (sz := s.heap.size)
  generalize hAe : va_A ([(a0, .inr (9, [.int m_t.1, .int m_t.2.1, .int m_t.2.2, g3, g4, g5, g6, g7, g8, g9, g10, g11, g12, g13, g14, g15, g16, g17, g18, g19, g20, g21, g22, g23, g24, g25, g26, g27, g28, g29]))]) s.heap.size = A at hD ⊢
  have hA : ∀ q : Nat, s.heap.size ≤ q → A q := fun q h => by rw [← hAe]; exact Or.inr h
  have hS : va_S A s.heap s.heap [] := va_S.rf
  have hP : va_P (dC, dI) vwCl ([(a0, .inr (9, [.int m_t.1, .int m_t.2.1, .int m_t.2.2, g3, g4, g5, g6, g7, g8, g9, g10, g11, g12, g13, g14, g15, g16, g17, g18, g19, g20, g21, g22, g23, g24, g25, g26, g27, g28, g29]))]) s.heap := hP
  have hl := lv_entry ([.ref a0, .int k1]) (n := 2) (Nat.le_of_ble_eq_true rfl)
  rw [lg_entry_eq]
  generalize (lg_sl ([.ref a0, .int k1]) ++ List.replicate (2 - (lg_sl ([.ref a0, .int k1])).length) Slot.unset).toArray = ls at hl ⊢
  have hl : lv_has ls 2 [(0, .ref a0), (1, .int k1)] := hl
  refine W_q (fun QQ hQQ => ?_)
  rw [f_X12_denied] at h
  refine lv_aload_n hx hb dX12_denied_0 rfl (lv_at hl 0 rfl) ?_
  refine lv_iload_n hx hb dX12_denied_1 rfl (lv_at hl 1 rfl) ?_
  obtain ⟨o2, eo2⟩ : ∃ o, o = f_X12_refused k1 m_t := ⟨_, rfl⟩
  have h := nm_of h o2 eo2
  refine cl_i (wc := ([(a0, .inr (9, [.int m_t.1, .int m_t.2.1, .int m_t.2.2, g3, g4, g5, g6, g7, g8, g9, g10, g11, g12, g13, g14, g15, g16, g17, g18, g19, g20, g21, g22, g23, g24, g25, g26, g27, g28, g29]))])) (wr := []) (va_runV (As := [.int k1]) (rest := []) ⟨hx, hb, hml, hown, hts⟩ (kfX12_refused l dC dI a0 k1 m_t (g3) (g4) (g5) (g6) (g7) (g8) (g9) (g10) (g11) (g12) (g13) (g14) (g15) (g16) (g17) (g18) (g19) (g20) (g21) (g22) (g23) (g24) (g25) (g26) (g27) (g28) (g29) s.heap.size o2 eo2.symm) (cwV 1 hts gfX12_denied_0 rfl rfl rfl (by decide +kernel) ⟨(Nat.le_of_ble_eq_true rfl), (Nat.le_of_ble_eq_true rfl)⟩) (PV (hP.sub (ws' := ([(a0, .inr (9, [.int m_t.1, .int m_t.2.1, .int m_t.2.2, g3, g4, g5, g6, g7, g8, g9, g10, g11, g12, g13, g14, g15, g16, g17, g18, g19, g20, g21, g22, g23, g24, g25, g26, g27, g28, g29]))])) [0] rfl) (hK.sub (tys' := ([])) [] rfl) (hD.sub (ws' := ([(a0, .inr (9, [.int m_t.1, .int m_t.2.1, .int m_t.2.2, g3, g4, g5, g6, g7, g8, g9, g10, g11, g12, g13, g14, g15, g16, g17, g18, g19, g20, g21, g22, g23, g24, g25, g26, g27, g28, g29]))])) [0] (by decide) rfl) hN 0 rfl rfl) rfl rfl hl.1 rfl (lv_room (Nat.le_of_ble_eq_true rfl)) dX12_denied_2 ⟨(Nat.le_of_ble_eq_true rfl), (Nat.le_of_ble_eq_true rfl)⟩) hP hD hK hS hA [0] [] rfl rfl (by decide) (by decide) (fun r2 _ H locs hw hP hD _ hS => ?_)
  obtain rfl := hw
  have hP : va_P (dC, dI) vwCl ([(a0, .inr (9, [.int o2.1, .int o2.2.1, .int o2.2.2, g3, g4, g5, g6, g7, g8, g9, g10, g11, g12, g13, g14, g15, g16, g17, g18, g19, g20, g21, g22, g23, g24, g25, g26, g27, g28, g29]))]) H := hP
  have hD : va_D A ([(a0, .inr (9, [.int o2.1, .int o2.2.1, .int o2.2.2, g3, g4, g5, g6, g7, g8, g9, g10, g11, g12, g13, g14, g15, g16, g17, g18, g19, g20, g21, g22, g23, g24, g25, g26, g27, g28, g29]))]) := hD
  refine lv_pop hx hb dX12_denied_5 rfl ?_
  refine lv_iconst (v := 0) hx hb dX12_denied_6 (by decide) ?_
  obtain rfl := h
  have hP9 := hP.sub (ws' := ([(a0, .inr (9, [.int o2.1, .int o2.2.1, .int o2.2.2, g3, g4, g5, g6, g7, g8, g9, g10, g11, g12, g13, g14, g15, g16, g17, g18, g19, g20, g21, g22, g23, g24, g25, g26, g27, g28, g29]))])) [0] rfl
  have hD9 := hD.sub (ws' := ([(a0, .inr (9, [.int o2.1, .int o2.2.1, .int o2.2.2, g3, g4, g5, g6, g7, g8, g9, g10, g11, g12, g13, g14, g15, g16, g17, g18, g19, g20, g21, g22, g23, g24, g25, g26, g27, g28, g29]))])) [0] (by decide) rfl
  have hK9 := hK.sub (tys' := []) [] rfl
  rw [hQQ]
  exact W.zret (v := (0 : Int32)) hx hb hr rfl (fun t ht hW => ⟨⟨(0 : Int32), (), rfl, ⟨rfl, (by decide)⟩, by rw [ht]; exact hP9, va_K.moved hW.alike hK9, hD9⟩, hS.F ht⟩) hS.2.2 dX12_denied_7
theorem dX12_let_0 : decode cX12_let 0 = .ok (.aload_n 0, 1) := by decide +kernel
theorem dX12_let_1 : decode cX12_let 1 = .ok (.iconst 0, 1) := by decide +kernel
theorem dX12_let_11 : decode cX12_let 11 = .ok (.iload_n 2, 1) := by decide +kernel
theorem dX12_let_12 : decode cX12_let 12 = .ok (.iload_n 3, 1) := by decide +kernel
theorem dX12_let_13 : decode cX12_let 13 = .ok (.iload 4, 2) := by decide +kernel
theorem dX12_let_15 : decode cX12_let 15 = .ok (.invokevirtual 353, 3) := by decide +kernel
theorem dX12_let_18 : decode cX12_let 18 = .ok (.istore 5, 2) := by decide +kernel
theorem dX12_let_2 : decode cX12_let 2 = .ok (.putfield 36, 3) := by decide +kernel
theorem dX12_let_20 : decode cX12_let 20 = .ok (.iload 5, 2) := by decide +kernel
theorem dX12_let_22 : decode cX12_let 22 = .ok (.ifCond .le 10, 3) := by decide +kernel
theorem dX12_let_25 : decode cX12_let 25 = .ok (.aload_n 0, 1) := by decide +kernel
theorem dX12_let_26 : decode cX12_let 26 = .ok (.iload 5, 2) := by decide +kernel
theorem dX12_let_28 : decode cX12_let 28 = .ok (.invokevirtual 498, 3) := by decide +kernel
theorem dX12_let_31 : decode cX12_let 31 = .ok (.ireturn, 1) := by decide +kernel
theorem dX12_let_32 : decode cX12_let 32 = .ok (.aload_n 0, 1) := by decide +kernel
theorem dX12_let_33 : decode cX12_let 33 = .ok (.getfield 17, 3) := by decide +kernel
theorem dX12_let_36 : decode cX12_let 36 = .ok (.bipush 18, 2) := by decide +kernel
theorem dX12_let_38 : decode cX12_let 38 = .ok (.iload_n 1, 1) := by decide +kernel
theorem dX12_let_39 : decode cX12_let 39 = .ok (.iadd, 1) := by decide +kernel
theorem dX12_let_40 : decode cX12_let 40 = .ok (.iaload, 1) := by decide +kernel
theorem dX12_let_41 : decode cX12_let 41 = .ok (.bipush (-2), 2) := by decide +kernel
theorem dX12_let_43 : decode cX12_let 43 = .ok (.if_icmp .ne 20, 3) := by decide +kernel
theorem dX12_let_46 : decode cX12_let 46 = .ok (.aload_n 0, 1) := by decide +kernel
theorem dX12_let_47 : decode cX12_let 47 = .ok (.getfield 299, 3) := by decide +kernel
theorem dX12_let_5 : decode cX12_let 5 = .ok (.aload_n 0, 1) := by decide +kernel
theorem dX12_let_50 : decode cX12_let 50 = .ok (.aload_n 0, 1) := by decide +kernel
theorem dX12_let_51 : decode cX12_let 51 = .ok (.getfield 17, 3) := by decide +kernel
theorem dX12_let_54 : decode cX12_let 54 = .ok (.bipush 23, 2) := by decide +kernel
theorem dX12_let_56 : decode cX12_let 56 = .ok (.iaload, 1) := by decide +kernel
theorem dX12_let_57 : decode cX12_let 57 = .ok (.invokevirtual 341, 3) := by decide +kernel
theorem dX12_let_6 : decode cX12_let 6 = .ok (.aload_n 0, 1) := by decide +kernel
theorem dX12_let_60 : decode cX12_let 60 = .ok (.ifCond .eq 9, 3) := by decide +kernel
theorem dX12_let_63 : decode cX12_let 63 = .ok (.aload_n 0, 1) := by decide +kernel
theorem dX12_let_64 : decode cX12_let 64 = .ok (.iconst 5, 1) := by decide +kernel
theorem dX12_let_65 : decode cX12_let 65 = .ok (.invokevirtual 498, 3) := by decide +kernel
theorem dX12_let_68 : decode cX12_let 68 = .ok (.ireturn, 1) := by decide +kernel
theorem dX12_let_69 : decode cX12_let 69 = .ok (.aload_n 0, 1) := by decide +kernel
theorem dX12_let_7 : decode cX12_let 7 = .ok (.iload_n 1, 1) := by decide +kernel
theorem dX12_let_70 : decode cX12_let 70 = .ok (.invokevirtual 501, 3) := by decide +kernel
theorem dX12_let_73 : decode cX12_let 73 = .ok (.aload_n 0, 1) := by decide +kernel
theorem dX12_let_74 : decode cX12_let 74 = .ok (.getfield 17, 3) := by decide +kernel
theorem dX12_let_77 : decode cX12_let 77 = .ok (.bipush 18, 2) := by decide +kernel
theorem dX12_let_79 : decode cX12_let 79 = .ok (.iload_n 1, 1) := by decide +kernel
theorem dX12_let_8 : decode cX12_let 8 = .ok (.invokevirtual 334, 3) := by decide +kernel
theorem dX12_let_80 : decode cX12_let 80 = .ok (.iadd, 1) := by decide +kernel
theorem dX12_let_81 : decode cX12_let 81 = .ok (.aload_n 0, 1) := by decide +kernel
theorem dX12_let_82 : decode cX12_let 82 = .ok (.iload_n 2, 1) := by decide +kernel
theorem dX12_let_83 : decode cX12_let 83 = .ok (.iload_n 3, 1) := by decide +kernel
theorem dX12_let_84 : decode cX12_let 84 = .ok (.iload 4, 2) := by decide +kernel
theorem dX12_let_86 : decode cX12_let 86 = .ok (.invokevirtual 357, 3) := by decide +kernel
theorem dX12_let_89 : decode cX12_let 89 = .ok (.iastore, 1) := by decide +kernel
theorem dX12_let_90 : decode cX12_let 90 = .ok (.aload_n 0, 1) := by decide +kernel
theorem dX12_let_91 : decode cX12_let 91 = .ok (.invokevirtual 504, 3) := by decide +kernel
theorem dX12_let_94 : decode cX12_let 94 = .ok (.ireturn, 1) := by decide +kernel
def vfX12_let : List Cond := List.cons (.code yX12_let cX12_let 6 (some .boolean)) (apW [.fieldLink RX12 36 "HookPierModel" "thrown" "I", .methodLink RX12 334 yX12_isAsker, .instanceMethod yX12_isAsker, .selects RX12 yX12_isAsker yX12_isAsker, .initialized RX12, .methodLink RX12 353 yX12_refusesQuestion, .instanceMethod yX12_refusesQuestion, .selects RX12 yX12_refusesQuestion yX12_refusesQuestion, .fieldLink RX12 17 "HookPierModel" "v" "[I", .methodLink RX12 498 yX12_denied, .instanceMethod yX12_denied, .selects RX12 yX12_denied yX12_denied, .fieldLink RX12 299 "HookPierModel" "pier" "LHookPierModel$Pier;", .methodLink RX12 341 yX11_isClose, .instanceMethod yX11_isClose, .selects RX11 yX11_isClose yX11_isClose, .initialized RX11, .methodLink RX12 501 yX12_remembers, .instanceMethod yX12_remembers, .selects RX12 yX12_remembers yX12_remembers, .methodLink RX12 357 yX12_question, .instanceMethod yX12_question, .selects RX12 yX12_question yX12_question, .methodLink RX12 504 yX12_granted, .instanceMethod yX12_granted, .selects RX12 yX12_granted yX12_granted] (apW wsX120 (apW vfX12_isAsker (apW vfX12_refusesQuestion (apW vfX12_denied (apW vfX11_isClose (apW vfX12_remembers (apW vfX12_question (vfX12_granted)))))))))
theorem ifX12_let_X12 : ∀ w ∈ wsX120, w ∈ vfX12_let := fun _ h => (List.mem_cons_of_mem _ (List.mem_append_right _ (List.mem_append_left _ h)))
theorem qfX12_let : Good vfX12_let := gd_cons (by decide +kernel) (gd_app (gd_dec (by decide +kernel) : Good [.fieldLink RX12 36 "HookPierModel" "thrown" "I", .methodLink RX12 334 yX12_isAsker, .instanceMethod yX12_isAsker, .selects RX12 yX12_isAsker yX12_isAsker, .initialized RX12, .methodLink RX12 353 yX12_refusesQuestion, .instanceMethod yX12_refusesQuestion, .selects RX12 yX12_refusesQuestion yX12_refusesQuestion, .fieldLink RX12 17 "HookPierModel" "v" "[I", .methodLink RX12 498 yX12_denied, .instanceMethod yX12_denied, .selects RX12 yX12_denied yX12_denied, .fieldLink RX12 299 "HookPierModel" "pier" "LHookPierModel$Pier;", .methodLink RX12 341 yX11_isClose, .instanceMethod yX11_isClose, .selects RX11 yX11_isClose yX11_isClose, .initialized RX11, .methodLink RX12 501 yX12_remembers, .instanceMethod yX12_remembers, .selects RX12 yX12_remembers yX12_remembers, .methodLink RX12 357 yX12_question, .instanceMethod yX12_question, .selects RX12 yX12_question yX12_question, .methodLink RX12 504 yX12_granted, .instanceMethod yX12_granted, .selects RX12 yX12_granted yX12_granted]) (gd_app qsX12 (gd_app qfX12_isAsker (gd_app qfX12_refusesQuestion (gd_app qfX12_denied (gd_app qfX11_isClose (gd_app qfX12_remembers (gd_app qfX12_question qfX12_granted))))))))
theorem gfX12_let_0 : GoodIn vfX12_let (wsV RX12 334 RX12 yX12_isAsker vfX12_isAsker) := goodIn_app (goodIn_r [.methodLink RX12 334 yX12_isAsker, .instanceMethod yX12_isAsker, .selects RX12 yX12_isAsker yX12_isAsker, .initialized RX12] [2, 3, 4, 5] rfl (by decide +kernel)) (goodIn_m (fun _ h => (List.mem_cons_of_mem _ (List.mem_append_right _ (List.mem_append_right _ (List.mem_append_left _ h))))) qfX12_isAsker)
theorem gfX12_let_1 : GoodIn vfX12_let (wsV RX12 353 RX12 yX12_refusesQuestion vfX12_refusesQuestion) := goodIn_app (goodIn_r [.methodLink RX12 353 yX12_refusesQuestion, .instanceMethod yX12_refusesQuestion, .selects RX12 yX12_refusesQuestion yX12_refusesQuestion, .initialized RX12] [6, 7, 8, 5] rfl (by decide +kernel)) (goodIn_m (fun _ h => (List.mem_cons_of_mem _ (List.mem_append_right _ (List.mem_append_right _ (List.mem_append_right _ (List.mem_append_left _ h)))))) qfX12_refusesQuestion)
theorem gfX12_let_2 : GoodIn vfX12_let (wsV RX12 498 RX12 yX12_denied vfX12_denied) := goodIn_app (goodIn_r [.methodLink RX12 498 yX12_denied, .instanceMethod yX12_denied, .selects RX12 yX12_denied yX12_denied, .initialized RX12] [10, 11, 12, 5] rfl (by decide +kernel)) (goodIn_m (fun _ h => (List.mem_cons_of_mem _ (List.mem_append_right _ (List.mem_append_right _ (List.mem_append_right _ (List.mem_append_right _ (List.mem_append_left _ h))))))) qfX12_denied)
theorem gfX12_let_3 : GoodIn vfX12_let (wsV RX12 341 RX11 yX11_isClose vfX11_isClose) := goodIn_app (goodIn_r [.methodLink RX12 341 yX11_isClose, .instanceMethod yX11_isClose, .selects RX11 yX11_isClose yX11_isClose, .initialized RX11] [14, 15, 16, 17] rfl (by decide +kernel)) (goodIn_m (fun _ h => (List.mem_cons_of_mem _ (List.mem_append_right _ (List.mem_append_right _ (List.mem_append_right _ (List.mem_append_right _ (List.mem_append_right _ (List.mem_append_left _ h)))))))) qfX11_isClose)
theorem gfX12_let_4 : GoodIn vfX12_let (wsV RX12 501 RX12 yX12_remembers vfX12_remembers) := goodIn_app (goodIn_r [.methodLink RX12 501 yX12_remembers, .instanceMethod yX12_remembers, .selects RX12 yX12_remembers yX12_remembers, .initialized RX12] [18, 19, 20, 5] rfl (by decide +kernel)) (goodIn_m (fun _ h => (List.mem_cons_of_mem _ (List.mem_append_right _ (List.mem_append_right _ (List.mem_append_right _ (List.mem_append_right _ (List.mem_append_right _ (List.mem_append_right _ (List.mem_append_left _ h))))))))) qfX12_remembers)
theorem gfX12_let_5 : GoodIn vfX12_let (wsV RX12 357 RX12 yX12_question vfX12_question) := goodIn_app (goodIn_r [.methodLink RX12 357 yX12_question, .instanceMethod yX12_question, .selects RX12 yX12_question yX12_question, .initialized RX12] [21, 22, 23, 5] rfl (by decide +kernel)) (goodIn_m (fun _ h => (List.mem_cons_of_mem _ (List.mem_append_right _ (List.mem_append_right _ (List.mem_append_right _ (List.mem_append_right _ (List.mem_append_right _ (List.mem_append_right _ (List.mem_append_right _ (List.mem_append_left _ h)))))))))) qfX12_question)
theorem gfX12_let_6 : GoodIn vfX12_let (wsV RX12 504 RX12 yX12_granted vfX12_granted) := goodIn_app (goodIn_r [.methodLink RX12 504 yX12_granted, .instanceMethod yX12_granted, .selects RX12 yX12_granted yX12_granted, .initialized RX12] [24, 25, 26, 5] rfl (by decide +kernel)) (goodIn_m (fun _ h => (List.mem_cons_of_mem _ (List.mem_append_right _ (List.mem_append_right _ (List.mem_append_right _ (List.mem_append_right _ (List.mem_append_right _ (List.mem_append_right _ (List.mem_append_right _ (List.mem_append_right _ h)))))))))) qfX12_granted)
set_option maxHeartbeats 2000000 in
set_option maxRecDepth 100000 in
theorem kfX12_let (l : Launch) (dC : Nat → ClassId) (dI : Nat → Nat → Nat) (a0 : Nat) (k1 : Int32) (k2 : Int32) (k3 : Int32) (k4 : Int32) (a5 : Nat) (a6 : Nat) (a7 : Nat) (a8 : Nat) (uq : Nat → Nat) (kq : Nat → ClassId) (m_t : TX12_t) (m_v : TX12_v) (m_h : TX12_h) (g14 : Value) (g15 : Value) (g16 : Value) (g17 : Value) (g18 : Value) (g19 : Value) (g20 : Value) (g21 : Value) (g22 : Value) (g23 : Value) (g24 : Value) (g25 : Value) (g26 : Value) (g27 : Value) (g28 : Value) (g29 : Value) (g30 : Value) (g31 : Value) (g32 : Value) (g33 : Value) (g34 : Value) (q_q : TX11_q) (cB36 : ClassId) (cB37 : ClassId) (cB38 : ClassId) (sz : Nat) (out : (Int32 × TX12_t × TX12_v × TX12_h)) (h : f_X12_let k1 k2 k3 k4 m_t m_v m_h q_q = some out) : Met l yX12_let vfX12_let ({ frames := 2, cells := 0, slots := 0, locals := 46 }) (PC (dC, dI) [.ref a0, .int k1, .int k2, .int k3, .int k4] sz ((a0, .inr (9, [.int m_t.1, .int m_t.2.1, .int m_t.2.2, .ref a5, g14, g15, g16, g17, g18, g19, g20, g21, g22, g23, g24, .ref a6, g25, .ref a7, .ref a8, .int m_h.2.2.1, .int m_h.2.2.2, g26, g27, g28, g29, g30, g31, g32, g33, g34])) :: bX11 a5 uq kq q_q ([(a6, .inl (cB36, 26, .inl m_v)), (a7, .inl (cB37, 416, .inl m_h.1)), (a8, .inl (cB38, 78, .inl m_h.2.1))])) (tX11 kq ((cB36, .int) :: (cB37, .int) :: (cB38, .int) :: []))) (va_Qi (S := Unit) (fun (r : Int32) _ => r = out.1 ∧ (0 ≤ r.toInt ∧ r.toInt ≤ 1)) (fun _ t => BC (dC, dI) (va_A ((a0, .inr (9, [.int m_t.1, .int m_t.2.1, .int m_t.2.2, .ref a5, g14, g15, g16, g17, g18, g19, g20, g21, g22, g23, g24, .ref a6, g25, .ref a7, .ref a8, .int m_h.2.2.1, .int m_h.2.2.2, g26, g27, g28, g29, g30, g31, g32, g33, g34])) :: bX11 a5 uq kq q_q ([(a6, .inl (cB36, 26, .inl m_v)), (a7, .inl (cB37, 416, .inl m_h.1)), (a8, .inl (cB38, 78, .inl m_h.2.1))])) sz) ((a0, .inr (9, [.int out.2.1.1, .int out.2.1.2.1, .int out.2.1.2.2, .ref a5, g14, g15, g16, g17, g18, g19, g20, g21, g22, g23, g24, .ref a6, g25, .ref a7, .ref a8, .int out.2.2.2.2.2.1, .int out.2.2.2.2.2.2, g26, g27, g28, g29, g30, g31, g32, g33, g34])) :: bX11 a5 uq kq q_q ([(a6, .inl (cB36, 26, .inl out.2.2.1)), (a7, .inl (cB37, 416, .inl out.2.2.2.1)), (a8, .inl (cB38, 78, .inl out.2.2.2.2.1))])) [] t) (va_A ((a0, .inr (9, [.int m_t.1, .int m_t.2.1, .int m_t.2.2, .ref a5, g14, g15, g16, g17, g18, g19, g20, g21, g22, g23, g24, .ref a6, g25, .ref a7, .ref a8, .int m_h.2.2.1, .int m_h.2.2.2, g26, g27, g28, g29, g30, g31, g32, g33, g34])) :: bX11 a5 uq kq q_q ([(a6, .inl (cB36, 26, .inl m_v)), (a7, .inl (cB37, 416, .inl m_h.1)), (a8, .inl (cB38, 78, .inl m_h.2.1))])) sz)) 0 0 (va_A ((a0, .inr (9, [.int m_t.1, .int m_t.2.1, .int m_t.2.2, .ref a5, g14, g15, g16, g17, g18, g19, g20, g21, g22, g23, g24, .ref a6, g25, .ref a7, .ref a8, .int m_h.2.2.1, .int m_h.2.2.2, g26, g27, g28, g29, g30, g31, g32, g33, g34])) :: bX11 a5 uq kq q_q ([(a6, .inl (cB36, 26, .inl m_v)), (a7, .inl (cB37, 416, .inl m_h.1)), (a8, .inl (cB38, 78, .inl m_h.2.1))])) sz) := by
  refine Met.ofW (cc := cX12_let) (maxL := 6) (ret := (some .boolean)) (by decide) rfl ?_
  intro p e s m args below meth c s₁ B0 hml hv
  obtain ⟨rfl, hsz, hP, hK, hD0, hN⟩ := hv
  have hx := B0.exec
  have hb := B0.bytes
  have hr := B0.returns
  have hts := atoms_spec (ws := vfX12_let) B0.pre
  have hown : s.vm.findClass RX12 = some m.cls := findClass_of_methodNamed B0.named
  have hlocks := B0.notSynchronized
  subst hsz
  have hD := hD0.self (sz := s.heap.size)
  generalize hAe : va_A ((a0, .inr (9, [.int m_t.1, .int m_t.2.1, .int m_t.2.2, .ref a5, g14, g15, g16, g17, g18, g19, g20, g21, g22, g23, g24, .ref a6, g25, .ref a7, .ref a8, .int m_h.2.2.1, .int m_h.2.2.2, g26, g27, g28, g29, g30, g31, g32, g33, g34])) :: bX11 a5 uq kq q_q ([(a6, .inl (cB36, 26, .inl m_v)), (a7, .inl (cB37, 416, .inl m_h.1)), (a8, .inl (cB38, 78, .inl m_h.2.1))])) s.heap.size = A at hD ⊢
  have hA : ∀ q : Nat, s.heap.size ≤ q → A q := fun q h => by rw [← hAe]; exact Or.inr h
  have hS : va_S A s.heap s.heap [] := va_S.rf
  have hP : va_P (dC, dI) vwCl ((a0, .inr (9, [.int m_t.1, .int m_t.2.1, .int m_t.2.2, .ref a5, g14, g15, g16, g17, g18, g19, g20, g21, g22, g23, g24, .ref a6, g25, .ref a7, .ref a8, .int m_h.2.2.1, .int m_h.2.2.2, g26, g27, g28, g29, g30, g31, g32, g33, g34])) :: bX11 a5 uq kq q_q ([(a6, .inl (cB36, 26, .inl m_v)), (a7, .inl (cB37, 416, .inl m_h.1)), (a8, .inl (cB38, 78, .inl m_h.2.1))])) s.heap := hP
  have hl := lv_entry ([.ref a0, .int k1, .int k2, .int k3, .int k4]) (n := 6) (Nat.le_of_ble_eq_true rfl)
  rw [lg_entry_eq]
  generalize (lg_sl ([.ref a0, .int k1, .int k2, .int k3, .int k4]) ++ List.replicate (6 - (lg_sl ([.ref a0, .int k1, .int k2, .int k3, .int k4])).length) Slot.unset).toArray = ls at hl ⊢
  have hl : lv_has ls 6 [(0, .ref a0), (1, .int k1), (2, .int k2), (3, .int k3), (4, .int k4)] := hl
  refine W_q (fun QQ hQQ => ?_)
  rw [f_X12_let] at h
  refine lv_aload_n hx hb dX12_let_0 rfl (lv_at hl 0 rfl) ?_
  refine lv_iconst (v := 0) hx hb dX12_let_1 (by decide) ?_
  refine va_put (D := (dC, dI)) (ci := 9) (v := .int 0) (ty := .int) (C := RX12) (T := TX12) (N := 30) hx hb hts ifX12_let_X12 tyX12 tyX12_ok nmX12 hown hK hP hD hS 0 rfl rfl 0 (by decide) (hts (.fieldLink RX12 36 "HookPierModel" "thrown" "I") (List.mem_of_getElem? (i := 1) rfl)) (fun _ h9 => h9) rfl (by decide +kernel) rfl rfl (Nat.le_of_ble_eq_true rfl) dX12_let_2 (fun H locs hP hD hS => ?_)
  have hP : va_P (dC, dI) vwCl ((a0, .inr (9, [.int 0, .int m_t.2.1, .int m_t.2.2, .ref a5, g14, g15, g16, g17, g18, g19, g20, g21, g22, g23, g24, .ref a6, g25, .ref a7, .ref a8, .int m_h.2.2.1, .int m_h.2.2.2, g26, g27, g28, g29, g30, g31, g32, g33, g34])) :: bX11 a5 uq kq q_q ([(a6, .inl (cB36, 26, .inl m_v)), (a7, .inl (cB37, 416, .inl m_h.1)), (a8, .inl (cB38, 78, .inl m_h.2.1))])) H := hP
  have hD : va_D A ((a0, .inr (9, [.int 0, .int m_t.2.1, .int m_t.2.2, .ref a5, g14, g15, g16, g17, g18, g19, g20, g21, g22, g23, g24, .ref a6, g25, .ref a7, .ref a8, .int m_h.2.2.1, .int m_h.2.2.2, g26, g27, g28, g29, g30, g31, g32, g33, g34])) :: bX11 a5 uq kq q_q ([(a6, .inl (cB36, 26, .inl m_v)), (a7, .inl (cB37, 416, .inl m_h.1)), (a8, .inl (cB38, 78, .inl m_h.2.1))])) := hD
  refine lv_aload_n hx hb dX12_let_5 rfl (lv_at hl 0 rfl) ?_
  refine lv_aload_n hx hb dX12_let_6 rfl (lv_at hl 0 rfl) ?_
  refine lv_iload_n hx hb dX12_let_7 rfl (lv_at hl 1 rfl) ?_
  obtain ⟨o8, eo8⟩ : ∃ o, o = f_X12_isAsker k1 q_q := ⟨_, rfl⟩
  have h := nm_of h o8 eo8
  refine cl_i (wc := ((a0, .inr (9, [.int 0, .int m_t.2.1, .int m_t.2.2, .ref a5, g14, g15, g16, g17, g18, g19, g20, g21, g22, g23, g24, .ref a6, g25, .ref a7, .ref a8, .int m_h.2.2.1, .int m_h.2.2.2, g26, g27, g28, g29, g30, g31, g32, g33, g34])) :: bX11 a5 uq kq q_q [])) (wr := ([(a6, .inl (cB36, 26, .inl m_v)), (a7, .inl (cB37, 416, .inl m_h.1)), (a8, .inl (cB38, 78, .inl m_h.2.1))])) (va_runV (As := [.int k1]) (rest := [.ref a0]) ⟨hx, hb, hml, hown, hts⟩ (kfX12_isAsker l dC dI a0 k1 a5 uq kq (.int 0) (.int m_t.2.1) (.int m_t.2.2) (g14) (g15) (g16) (g17) (g18) (g19) (g20) (g21) (g22) (g23) (g24) (.ref a6) (g25) (.ref a7) (.ref a8) (.int m_h.2.2.1) (.int m_h.2.2.2) (g26) (g27) (g28) (g29) (g30) (g31) (g32) (g33) (g34) q_q H.size o8 eo8.symm) (cwV 1 hts gfX12_let_0 rfl rfl rfl (by decide +kernel) ⟨(Nat.le_of_ble_eq_true rfl), (Nat.le_of_ble_eq_true rfl)⟩) (PV (hP.sub (ws' := ((a0, .inr (9, [.int 0, .int m_t.2.1, .int m_t.2.2, .ref a5, g14, g15, g16, g17, g18, g19, g20, g21, g22, g23, g24, .ref a6, g25, .ref a7, .ref a8, .int m_h.2.2.1, .int m_h.2.2.2, g26, g27, g28, g29, g30, g31, g32, g33, g34])) :: bX11 a5 uq kq q_q [])) [0, 1, 2, 3, 4, 5, 6, 7, 8, 9, 10, 11, 12, 13, 14, 15] rfl) (hK.sub (tys' := (tX11 kq ([]))) [0, 1, 2, 3, 4, 5, 6, 7, 8, 9, 10, 11, 12, 13] rfl) (hD.sub (ws' := ((a0, .inr (9, [.int 0, .int m_t.2.1, .int m_t.2.2, .ref a5, g14, g15, g16, g17, g18, g19, g20, g21, g22, g23, g24, .ref a6, g25, .ref a7, .ref a8, .int m_h.2.2.1, .int m_h.2.2.2, g26, g27, g28, g29, g30, g31, g32, g33, g34])) :: bX11 a5 uq kq q_q [])) [0, 1, 2, 3, 4, 5, 6, 7, 8, 9, 10, 11, 12, 13, 14, 15] (by decide) rfl) hN 0 rfl rfl) rfl rfl hl.1 rfl (lv_room (Nat.le_of_ble_eq_true rfl)) dX12_let_8 ⟨(Nat.le_of_ble_eq_true rfl), (Nat.le_of_ble_eq_true rfl)⟩) hP hD hK hS hA [0, 1, 2, 3, 4, 5, 6, 7, 8, 9, 10, 11, 12, 13, 14, 15] [16, 17, 18] rfl rfl (by decide) (by decide) (fun r8 _ H locs hw hP hD _ hS => ?_)
  obtain ⟨hw, br8⟩ := hw
  obtain rfl := hw.symm
  have hP : va_P (dC, dI) vwCl ((a6, .inl (cB36, 26, .inl m_v)) :: (a7, .inl (cB37, 416, .inl m_h.1)) :: (a8, .inl (cB38, 78, .inl m_h.2.1)) :: (a0, .inr (9, [.int 0, .int m_t.2.1, .int m_t.2.2, .ref a5, g14, g15, g16, g17, g18, g19, g20, g21, g22, g23, g24, .ref a6, g25, .ref a7, .ref a8, .int m_h.2.2.1, .int m_h.2.2.2, g26, g27, g28, g29, g30, g31, g32, g33, g34])) :: bX11 a5 uq kq q_q []) H := hP
  have hD : va_D A ((a6, .inl (cB36, 26, .inl m_v)) :: (a7, .inl (cB37, 416, .inl m_h.1)) :: (a8, .inl (cB38, 78, .inl m_h.2.1)) :: (a0, .inr (9, [.int 0, .int m_t.2.1, .int m_t.2.2, .ref a5, g14, g15, g16, g17, g18, g19, g20, g21, g22, g23, g24, .ref a6, g25, .ref a7, .ref a8, .int m_h.2.2.1, .int m_h.2.2.2, g26, g27, g28, g29, g30, g31, g32, g33, g34])) :: bX11 a5 uq kq q_q []) := hD
  refine lv_iload_n hx hb dX12_let_11 rfl (lv_at hl 2 rfl) ?_
  refine lv_iload_n hx hb dX12_let_12 rfl (lv_at hl 3 rfl) ?_
  refine lv_iload hx hb dX12_let_13 (lv_at hl 4 rfl) ?_
  obtain ⟨o15, eo15⟩ : ∃ o, o = f_X12_refusesQuestion o8 k2 k3 k4 q_q := ⟨_, rfl⟩
  have h := nm_of h o15 eo15
  refine cl_i (wc := ((a0, .inr (9, [.int 0, .int m_t.2.1, .int m_t.2.2, .ref a5, g14, g15, g16, g17, g18, g19, g20, g21, g22, g23, g24, .ref a6, g25, .ref a7, .ref a8, .int m_h.2.2.1, .int m_h.2.2.2, g26, g27, g28, g29, g30, g31, g32, g33, g34])) :: bX11 a5 uq kq q_q [])) (wr := ([(a6, .inl (cB36, 26, .inl m_v)), (a7, .inl (cB37, 416, .inl m_h.1)), (a8, .inl (cB38, 78, .inl m_h.2.1))])) (va_runV (As := [.int o8, .int k2, .int k3, .int k4]) (rest := []) ⟨hx, hb, hml, hown, hts⟩ (kfX12_refusesQuestion l dC dI a0 o8 k2 k3 k4 a5 uq kq (.int 0) (.int m_t.2.1) (.int m_t.2.2) (g14) (g15) (g16) (g17) (g18) (g19) (g20) (g21) (g22) (g23) (g24) (.ref a6) (g25) (.ref a7) (.ref a8) (.int m_h.2.2.1) (.int m_h.2.2.2) (g26) (g27) (g28) (g29) (g30) (g31) (g32) (g33) (g34) q_q H.size o15 eo15.symm) (cwV 4 hts gfX12_let_1 rfl rfl rfl (by decide +kernel) ⟨(Nat.le_of_ble_eq_true rfl), (Nat.le_of_ble_eq_true rfl)⟩) (PV (hP.sub (ws' := ((a0, .inr (9, [.int 0, .int m_t.2.1, .int m_t.2.2, .ref a5, g14, g15, g16, g17, g18, g19, g20, g21, g22, g23, g24, .ref a6, g25, .ref a7, .ref a8, .int m_h.2.2.1, .int m_h.2.2.2, g26, g27, g28, g29, g30, g31, g32, g33, g34])) :: bX11 a5 uq kq q_q [])) [3, 4, 5, 6, 7, 8, 9, 10, 11, 12, 13, 14, 15, 16, 17, 18] rfl) (hK.sub (tys' := (tX11 kq ([]))) [0, 1, 2, 3, 4, 5, 6, 7, 8, 9, 10, 11, 12, 13] rfl) (hD.sub (ws' := ((a0, .inr (9, [.int 0, .int m_t.2.1, .int m_t.2.2, .ref a5, g14, g15, g16, g17, g18, g19, g20, g21, g22, g23, g24, .ref a6, g25, .ref a7, .ref a8, .int m_h.2.2.1, .int m_h.2.2.2, g26, g27, g28, g29, g30, g31, g32, g33, g34])) :: bX11 a5 uq kq q_q [])) [3, 4, 5, 6, 7, 8, 9, 10, 11, 12, 13, 14, 15, 16, 17, 18] (by decide) rfl) hN 0 rfl rfl) rfl rfl hl.1 rfl (lv_room (Nat.le_of_ble_eq_true rfl)) dX12_let_15 ⟨(Nat.le_of_ble_eq_true rfl), (Nat.le_of_ble_eq_true rfl)⟩) hP hD hK hS hA [3, 4, 5, 6, 7, 8, 9, 10, 11, 12, 13, 14, 15, 16, 17, 18] [0, 1, 2] rfl rfl (by decide) (by decide) (fun r15 _ H locs hw hP hD _ hS => ?_)
  obtain rfl := hw.symm
  have hP : va_P (dC, dI) vwCl ((a6, .inl (cB36, 26, .inl m_v)) :: (a7, .inl (cB37, 416, .inl m_h.1)) :: (a8, .inl (cB38, 78, .inl m_h.2.1)) :: (a0, .inr (9, [.int 0, .int m_t.2.1, .int m_t.2.2, .ref a5, g14, g15, g16, g17, g18, g19, g20, g21, g22, g23, g24, .ref a6, g25, .ref a7, .ref a8, .int m_h.2.2.1, .int m_h.2.2.2, g26, g27, g28, g29, g30, g31, g32, g33, g34])) :: bX11 a5 uq kq q_q []) H := hP
  have hD : va_D A ((a6, .inl (cB36, 26, .inl m_v)) :: (a7, .inl (cB37, 416, .inl m_h.1)) :: (a8, .inl (cB38, 78, .inl m_h.2.1)) :: (a0, .inr (9, [.int 0, .int m_t.2.1, .int m_t.2.2, .ref a5, g14, g15, g16, g17, g18, g19, g20, g21, g22, g23, g24, .ref a6, g25, .ref a7, .ref a8, .int m_h.2.2.1, .int m_h.2.2.2, g26, g27, g28, g29, g30, g31, g32, g33, g34])) :: bX11 a5 uq kq q_q []) := hD
  refine lv_istore (lv' := [(5, .int o15), (0, .ref a0), (1, .int k1), (2, .int k2), (3, .int k3), (4, .int k4)]) hx hb dX12_let_18 hl (by decide) rfl (fun ls hl => ?_)
  refine lv_iload hx hb dX12_let_20 (lv_at hl 0 rfl) ?_
  refine lv_if_le (tgt := 32) hx hb dX12_let_22 (by decide) (fun c22 => ?_) (fun c22 => ?_)
  · have h := (if_pos c22).symm.trans h
    refine lv_aload_n hx hb dX12_let_32 rfl (lv_at hl 1 rfl) ?_
    refine va_get (D := (dC, dI)) (ci := 9) (v := .ref a6) (C := RX12) (T := TX12) (N := 30) hx hb hts ifX12_let_X12 hown hK hP 3 rfl rfl 15 (by decide) (hts (.fieldLink RX12 17 "HookPierModel" "v" "[I") (List.mem_of_getElem? (i := 9) rfl)) (fun _ h9 => h9) rfl dX12_let_33 ?_
    refine lv_bipush (v := 18) hx hb dX12_let_36 (by decide) ?_
    refine lv_iload_n hx hb dX12_let_38 rfl (lv_at hl 2 rfl) ?_
    refine lv_iadd hx hb dX12_let_39 ?_
    obtain ⟨hg40, h⟩ := gA_of h
    refine va_iald hx hb hK hP 0 14 rfl rfl hg40 dX12_let_40 ?_
    refine lv_bipush (v := (-2)) hx hb dX12_let_41 (by decide) ?_
    have J63 : ∀ (H : Heap) (locs : List Loc) (ls : Array Slot), f_X12_let_J63 m_t m_v m_h = some out → va_P (dC, dI) vwCl ((a6, .inl (cB36, 26, .inl m_v)) :: (a7, .inl (cB37, 416, .inl m_h.1)) :: (a8, .inl (cB38, 78, .inl m_h.2.1)) :: (a0, .inr (9, [.int 0, .int m_t.2.1, .int m_t.2.2, .ref a5, g14, g15, g16, g17, g18, g19, g20, g21, g22, g23, g24, .ref a6, g25, .ref a7, .ref a8, .int m_h.2.2.1, .int m_h.2.2.2, g26, g27, g28, g29, g30, g31, g32, g33, g34])) :: bX11 a5 uq kq q_q []) H → va_D A ((a6, .inl (cB36, 26, .inl m_v)) :: (a7, .inl (cB37, 416, .inl m_h.1)) :: (a8, .inl (cB38, 78, .inl m_h.2.1)) :: (a0, .inr (9, [.int 0, .int m_t.2.1, .int m_t.2.2, .ref a5, g14, g15, g16, g17, g18, g19, g20, g21, g22, g23, g24, .ref a6, g25, .ref a7, .ref a8, .int m_h.2.2.1, .int m_h.2.2.2, g26, g27, g28, g29, g30, g31, g32, g33, g34])) :: bX11 a5 uq kq q_q []) → va_S A s.heap H locs → lv_has ls 6 [(0, .ref a0)] → W p l e (headSpec vfX12_let { frames := 2, cells := 0, slots := 0, locals := 46 }).room s m ([.ref a0, .int k1, .int k2, .int k3, .int k4]).toArray below meth c H locs 0 0 QQ (F0 m 63 ls []) := by
      intro  H locs ls h  hP hD hS hl
      rw [f_X12_let_J63] at h
      refine lv_aload_n hx hb dX12_let_63 rfl (lv_at hl 0 rfl) ?_
      refine lv_iconst (v := 5) hx hb dX12_let_64 (by decide) ?_
      obtain ⟨o65, eo65⟩ : ∃ o, o = f_X12_denied (5 : Int32) ((0 : Int32), m_t.2) := ⟨_, rfl⟩
      have h := nm_of h o65 eo65
      refine cl_i (wc := ([(a0, .inr (9, [.int 0, .int m_t.2.1, .int m_t.2.2, .ref a5, g14, g15, g16, g17, g18, g19, g20, g21, g22, g23, g24, .ref a6, g25, .ref a7, .ref a8, .int m_h.2.2.1, .int m_h.2.2.2, g26, g27, g28, g29, g30, g31, g32, g33, g34]))])) (wr := ((a6, .inl (cB36, 26, .inl m_v)) :: (a7, .inl (cB37, 416, .inl m_h.1)) :: (a8, .inl (cB38, 78, .inl m_h.2.1)) :: bX11 a5 uq kq q_q [])) (va_runV (As := [.int 5]) (rest := []) ⟨hx, hb, hml, hown, hts⟩ (kfX12_denied l dC dI a0 (5 : Int32) ((0 : Int32), m_t.2) (.ref a5) (g14) (g15) (g16) (g17) (g18) (g19) (g20) (g21) (g22) (g23) (g24) (.ref a6) (g25) (.ref a7) (.ref a8) (.int m_h.2.2.1) (.int m_h.2.2.2) (g26) (g27) (g28) (g29) (g30) (g31) (g32) (g33) (g34) H.size o65 eo65.symm) (cwV 1 hts gfX12_let_2 rfl rfl rfl (by decide +kernel) ⟨(Nat.le_of_ble_eq_true rfl), (Nat.le_of_ble_eq_true rfl)⟩) (PV (hP.sub (ws' := ([(a0, .inr (9, [.int 0, .int m_t.2.1, .int m_t.2.2, .ref a5, g14, g15, g16, g17, g18, g19, g20, g21, g22, g23, g24, .ref a6, g25, .ref a7, .ref a8, .int m_h.2.2.1, .int m_h.2.2.2, g26, g27, g28, g29, g30, g31, g32, g33, g34]))])) [3] rfl) (hK.sub (tys' := ([])) [] rfl) (hD.sub (ws' := ([(a0, .inr (9, [.int 0, .int m_t.2.1, .int m_t.2.2, .ref a5, g14, g15, g16, g17, g18, g19, g20, g21, g22, g23, g24, .ref a6, g25, .ref a7, .ref a8, .int m_h.2.2.1, .int m_h.2.2.2, g26, g27, g28, g29, g30, g31, g32, g33, g34]))])) [3] (by decide) rfl) hN 0 rfl rfl) rfl rfl hl.1 rfl (lv_room (Nat.le_of_ble_eq_true rfl)) dX12_let_65 ⟨(Nat.le_of_ble_eq_true rfl), (Nat.le_of_ble_eq_true rfl)⟩) hP hD hK hS hA [3] [0, 1, 2, 4, 5, 6, 7, 8, 9, 10, 11, 12, 13, 14, 15, 16, 17, 18] rfl rfl (by decide) (by decide) (fun r65 _ H locs hw hP hD _ hS => ?_)
      obtain ⟨hw, br65⟩ := hw
      obtain rfl := hw
      have hP : va_P (dC, dI) vwCl ((a6, .inl (cB36, 26, .inl m_v)) :: (a7, .inl (cB37, 416, .inl m_h.1)) :: (a8, .inl (cB38, 78, .inl m_h.2.1)) :: bX11 a5 uq kq q_q ([(a0, .inr (9, [.int o65.1, .int o65.2.1, .int o65.2.2, .ref a5, g14, g15, g16, g17, g18, g19, g20, g21, g22, g23, g24, .ref a6, g25, .ref a7, .ref a8, .int m_h.2.2.1, .int m_h.2.2.2, g26, g27, g28, g29, g30, g31, g32, g33, g34]))])) H := hP
      have hD : va_D A ((a6, .inl (cB36, 26, .inl m_v)) :: (a7, .inl (cB37, 416, .inl m_h.1)) :: (a8, .inl (cB38, 78, .inl m_h.2.1)) :: bX11 a5 uq kq q_q ([(a0, .inr (9, [.int o65.1, .int o65.2.1, .int o65.2.2, .ref a5, g14, g15, g16, g17, g18, g19, g20, g21, g22, g23, g24, .ref a6, g25, .ref a7, .ref a8, .int m_h.2.2.1, .int m_h.2.2.2, g26, g27, g28, g29, g30, g31, g32, g33, g34]))])) := hD
      obtain rfl := Option.some.inj h
      have hP9 := hP.sub (ws' := ((a0, .inr (9, [.int o65.1, .int o65.2.1, .int o65.2.2, .ref a5, g14, g15, g16, g17, g18, g19, g20, g21, g22, g23, g24, .ref a6, g25, .ref a7, .ref a8, .int m_h.2.2.1, .int m_h.2.2.2, g26, g27, g28, g29, g30, g31, g32, g33, g34])) :: bX11 a5 uq kq q_q ([(a6, .inl (cB36, 26, .inl m_v)), (a7, .inl (cB37, 416, .inl m_h.1)), (a8, .inl (cB38, 78, .inl m_h.2.1))]))) [18, 3, 4, 5, 6, 7, 8, 9, 10, 11, 12, 13, 14, 15, 16, 17, 0, 1, 2] rfl
      have hD9 := hD.sub (ws' := ((a0, .inr (9, [.int o65.1, .int o65.2.1, .int o65.2.2, .ref a5, g14, g15, g16, g17, g18, g19, g20, g21, g22, g23, g24, .ref a6, g25, .ref a7, .ref a8, .int m_h.2.2.1, .int m_h.2.2.2, g26, g27, g28, g29, g30, g31, g32, g33, g34])) :: bX11 a5 uq kq q_q ([(a6, .inl (cB36, 26, .inl m_v)), (a7, .inl (cB37, 416, .inl m_h.1)), (a8, .inl (cB38, 78, .inl m_h.2.1))]))) [18, 3, 4, 5, 6, 7, 8, 9, 10, 11, 12, 13, 14, 15, 16, 17, 0, 1, 2] (by decide) rfl
      have hK9 := hK.sub (tys' := []) [] rfl
      rw [hQQ]
      exact W.zret (v := (0 : Int32)) hx hb hr rfl (fun t ht hW => ⟨⟨(0 : Int32), (), rfl, ⟨rfl, (by decide)⟩, by rw [ht]; exact hP9, va_K.moved hW.alike hK9, hD9⟩, hS.F ht⟩) hS.2.2 dX12_let_68
    refine lv_icmp_ne (tgt := 63) hx hb dX12_let_43 (by decide) (fun c43 => ?_) (fun c43 => ?_)
    · have h := (if_neg c43).symm.trans h
      exact J63  H _ ls h  hP hD hS (lv_sub hl [1] rfl)
    · have h := (if_pos c43).symm.trans h
      refine lv_aload_n hx hb dX12_let_46 rfl (lv_at hl 1 rfl) ?_
      refine va_get (D := (dC, dI)) (ci := 9) (v := .ref a5) (C := RX12) (T := TX12) (N := 30) hx hb hts ifX12_let_X12 hown hK hP 3 rfl rfl 3 (by decide) (hts (.fieldLink RX12 299 "HookPierModel" "pier" "LHookPierModel$Pier;") (List.mem_of_getElem? (i := 13) rfl)) (fun _ h9 => h9) rfl dX12_let_47 ?_
      refine lv_aload_n hx hb dX12_let_50 rfl (lv_at hl 1 rfl) ?_
      refine va_get (D := (dC, dI)) (ci := 9) (v := .ref a6) (C := RX12) (T := TX12) (N := 30) hx hb hts ifX12_let_X12 hown hK hP 3 rfl rfl 15 (by decide) (hts (.fieldLink RX12 17 "HookPierModel" "v" "[I") (List.mem_of_getElem? (i := 9) rfl)) (fun _ h9 => h9) rfl dX12_let_51 ?_
      refine lv_bipush (v := 23) hx hb dX12_let_54 (by decide) ?_
      refine va_iald hx hb hK hP 0 14 rfl rfl (by unfold vp_in; decide) dX12_let_56 ?_
      obtain ⟨o57, eo57⟩ : ∃ o, o = f_X11_isClose (m_v ((23 : Int32)).toNatClampNeg) q_q := ⟨_, rfl⟩
      have h := nm_of h o57 eo57
      refine cl_i (wc := (bX11 a5 uq kq q_q [])) (wr := ([(a6, .inl (cB36, 26, .inl m_v)), (a7, .inl (cB37, 416, .inl m_h.1)), (a8, .inl (cB38, 78, .inl m_h.2.1)), (a0, .inr (9, [.int 0, .int m_t.2.1, .int m_t.2.2, .ref a5, g14, g15, g16, g17, g18, g19, g20, g21, g22, g23, g24, .ref a6, g25, .ref a7, .ref a8, .int m_h.2.2.1, .int m_h.2.2.2, g26, g27, g28, g29, g30, g31, g32, g33, g34]))])) (va_runV (As := [.int (m_v ((23 : Int32)).toNatClampNeg)]) (rest := []) ⟨hx, hb, hml, hown, hts⟩ (kfX11_isClose l dC dI a5 (m_v ((23 : Int32)).toNatClampNeg) uq kq q_q H.size o57 eo57.symm) (cwV 1 hts gfX12_let_3 rfl rfl rfl (by decide +kernel) ⟨(Nat.le_of_ble_eq_true rfl), (Nat.le_of_ble_eq_true rfl)⟩) (PV (hP.sub (ws' := (bX11 a5 uq kq q_q [])) [4, 5, 6, 7, 8, 9, 10, 11, 12, 13, 14, 15, 16, 17, 18] rfl) (hK.sub (tys' := (tX11 kq ([]))) [0, 1, 2, 3, 4, 5, 6, 7, 8, 9, 10, 11, 12, 13] rfl) (hD.sub (ws' := (bX11 a5 uq kq q_q [])) [4, 5, 6, 7, 8, 9, 10, 11, 12, 13, 14, 15, 16, 17, 18] (by decide) rfl) hN 0 rfl rfl) rfl rfl hl.1 rfl (lv_room (Nat.le_of_ble_eq_true rfl)) dX12_let_57 ⟨(Nat.le_of_ble_eq_true rfl), (Nat.le_of_ble_eq_true rfl)⟩) hP hD hK hS hA [4, 5, 6, 7, 8, 9, 10, 11, 12, 13, 14, 15, 16, 17, 18] [0, 1, 2, 3] rfl rfl (by decide) (by decide) (fun r57 _ H locs hw hP hD _ hS => ?_)
      obtain ⟨hw, br57⟩ := hw
      obtain rfl := hw.symm
      have hP : va_P (dC, dI) vwCl ((a6, .inl (cB36, 26, .inl m_v)) :: (a7, .inl (cB37, 416, .inl m_h.1)) :: (a8, .inl (cB38, 78, .inl m_h.2.1)) :: (a0, .inr (9, [.int 0, .int m_t.2.1, .int m_t.2.2, .ref a5, g14, g15, g16, g17, g18, g19, g20, g21, g22, g23, g24, .ref a6, g25, .ref a7, .ref a8, .int m_h.2.2.1, .int m_h.2.2.2, g26, g27, g28, g29, g30, g31, g32, g33, g34])) :: bX11 a5 uq kq q_q []) H := hP
      have hD : va_D A ((a6, .inl (cB36, 26, .inl m_v)) :: (a7, .inl (cB37, 416, .inl m_h.1)) :: (a8, .inl (cB38, 78, .inl m_h.2.1)) :: (a0, .inr (9, [.int 0, .int m_t.2.1, .int m_t.2.2, .ref a5, g14, g15, g16, g17, g18, g19, g20, g21, g22, g23, g24, .ref a6, g25, .ref a7, .ref a8, .int m_h.2.2.1, .int m_h.2.2.2, g26, g27, g28, g29, g30, g31, g32, g33, g34])) :: bX11 a5 uq kq q_q []) := hD
      refine lv_if_eq (tgt := 69) hx hb dX12_let_60 (by decide) (fun c60 => ?_) (fun c60 => ?_)
      · have h := (if_pos c60).symm.trans h
        refine lv_aload_n hx hb dX12_let_69 rfl (lv_at hl 1 rfl) ?_
        obtain ⟨o70, eo70, h⟩ := bd_of h
        refine cl_v (wc := ([(a0, .inr (9, [.int 0, .int m_t.2.1, .int m_t.2.2, .ref a5, g14, g15, g16, g17, g18, g19, g20, g21, g22, g23, g24, .ref a6, g25, .ref a7, .ref a8, .int m_h.2.2.1, .int m_h.2.2.2, g26, g27, g28, g29, g30, g31, g32, g33, g34])), (a6, .inl (cB36, 26, .inl m_v)), (a7, .inl (cB37, 416, .inl m_h.1)), (a8, .inl (cB38, 78, .inl m_h.2.1))])) (wr := (bX11 a5 uq kq q_q [])) (va_runV (As := []) (rest := []) ⟨hx, hb, hml, hown, hts⟩ (kfX12_remembers l dC dI a0 a6 a7 a8 m_v m_h (.int 0) (.int m_t.2.1) (.int m_t.2.2) (.ref a5) (g14) (g15) (g16) (g17) (g18) (g19) (g20) (g21) (g22) (g23) (g24) (g25) (g26) (g27) (g28) (g29) (g30) (g31) (g32) (g33) (g34) cB36 cB37 cB38 H.size o70 eo70) (cwV 0 hts gfX12_let_4 rfl rfl rfl (by decide +kernel) ⟨(Nat.le_of_ble_eq_true rfl), (Nat.le_of_ble_eq_true rfl)⟩) (PV (hP.sub (ws' := ([(a0, .inr (9, [.int 0, .int m_t.2.1, .int m_t.2.2, .ref a5, g14, g15, g16, g17, g18, g19, g20, g21, g22, g23, g24, .ref a6, g25, .ref a7, .ref a8, .int m_h.2.2.1, .int m_h.2.2.2, g26, g27, g28, g29, g30, g31, g32, g33, g34])), (a6, .inl (cB36, 26, .inl m_v)), (a7, .inl (cB37, 416, .inl m_h.1)), (a8, .inl (cB38, 78, .inl m_h.2.1))])) [3, 0, 1, 2] rfl) (hK.sub (tys' := ((cB36, .int) :: (cB37, .int) :: (cB38, .int) :: [])) [14, 15, 16] rfl) (hD.sub (ws' := ([(a0, .inr (9, [.int 0, .int m_t.2.1, .int m_t.2.2, .ref a5, g14, g15, g16, g17, g18, g19, g20, g21, g22, g23, g24, .ref a6, g25, .ref a7, .ref a8, .int m_h.2.2.1, .int m_h.2.2.2, g26, g27, g28, g29, g30, g31, g32, g33, g34])), (a6, .inl (cB36, 26, .inl m_v)), (a7, .inl (cB37, 416, .inl m_h.1)), (a8, .inl (cB38, 78, .inl m_h.2.1))])) [3, 0, 1, 2] (by decide) rfl) hN 0 rfl rfl) rfl rfl hl.1 rfl (lv_room (Nat.le_of_ble_eq_true rfl)) dX12_let_70 ⟨(Nat.le_of_ble_eq_true rfl), (Nat.le_of_ble_eq_true rfl)⟩) hP hD hK hS hA [3, 0, 1, 2] [4, 5, 6, 7, 8, 9, 10, 11, 12, 13, 14, 15, 16, 17, 18] rfl rfl (by decide) (by decide) (fun _ H locs hw hP hD _ hS => ?_)
        have hP : va_P (dC, dI) vwCl (bX11 a5 uq kq q_q ([(a0, .inr (9, [.int 0, .int m_t.2.1, .int m_t.2.2, .ref a5, g14, g15, g16, g17, g18, g19, g20, g21, g22, g23, g24, .ref a6, g25, .ref a7, .ref a8, .int o70.2.2.1, .int o70.2.2.2, g26, g27, g28, g29, g30, g31, g32, g33, g34])), (a6, .inl (cB36, 26, .inl m_v)), (a7, .inl (cB37, 416, .inl o70.1)), (a8, .inl (cB38, 78, .inl o70.2.1))])) H := hP
        have hD : va_D A (bX11 a5 uq kq q_q ([(a0, .inr (9, [.int 0, .int m_t.2.1, .int m_t.2.2, .ref a5, g14, g15, g16, g17, g18, g19, g20, g21, g22, g23, g24, .ref a6, g25, .ref a7, .ref a8, .int o70.2.2.1, .int o70.2.2.2, g26, g27, g28, g29, g30, g31, g32, g33, g34])), (a6, .inl (cB36, 26, .inl m_v)), (a7, .inl (cB37, 416, .inl o70.1)), (a8, .inl (cB38, 78, .inl o70.2.1))])) := hD
        refine lv_aload_n hx hb dX12_let_73 rfl (lv_at hl 1 rfl) ?_
        refine va_get (D := (dC, dI)) (ci := 9) (v := .ref a6) (C := RX12) (T := TX12) (N := 30) hx hb hts ifX12_let_X12 hown hK hP 15 rfl rfl 15 (by decide) (hts (.fieldLink RX12 17 "HookPierModel" "v" "[I") (List.mem_of_getElem? (i := 9) rfl)) (fun _ h9 => h9) rfl dX12_let_74 ?_
        refine lv_bipush (v := 18) hx hb dX12_let_77 (by decide) ?_
        refine lv_iload_n hx hb dX12_let_79 rfl (lv_at hl 2 rfl) ?_
        refine lv_iadd hx hb dX12_let_80 ?_
        refine lv_aload_n hx hb dX12_let_81 rfl (lv_at hl 1 rfl) ?_
        refine lv_iload_n hx hb dX12_let_82 rfl (lv_at hl 3 rfl) ?_
        refine lv_iload_n hx hb dX12_let_83 rfl (lv_at hl 4 rfl) ?_
        refine lv_iload hx hb dX12_let_84 (lv_at hl 5 rfl) ?_
        obtain ⟨o86, eo86⟩ : ∃ o, o = f_X12_question k2 k3 k4 q_q := ⟨_, rfl⟩
        have h := nm_of h o86 eo86
        refine cl_i (wc := ((a0, .inr (9, [.int 0, .int m_t.2.1, .int m_t.2.2, .ref a5, g14, g15, g16, g17, g18, g19, g20, g21, g22, g23, g24, .ref a6, g25, .ref a7, .ref a8, .int o70.2.2.1, .int o70.2.2.2, g26, g27, g28, g29, g30, g31, g32, g33, g34])) :: bX11 a5 uq kq q_q [])) (wr := ([(a6, .inl (cB36, 26, .inl m_v)), (a7, .inl (cB37, 416, .inl o70.1)), (a8, .inl (cB38, 78, .inl o70.2.1))])) (va_runV (As := [.int k2, .int k3, .int k4]) (rest := [.int ((18 : Int32) + k1), .ref a6]) ⟨hx, hb, hml, hown, hts⟩ (kfX12_question l dC dI a0 k2 k3 k4 a5 uq kq (.int 0) (.int m_t.2.1) (.int m_t.2.2) (g14) (g15) (g16) (g17) (g18) (g19) (g20) (g21) (g22) (g23) (g24) (.ref a6) (g25) (.ref a7) (.ref a8) (.int o70.2.2.1) (.int o70.2.2.2) (g26) (g27) (g28) (g29) (g30) (g31) (g32) (g33) (g34) q_q H.size o86 eo86.symm) (cwV 3 hts gfX12_let_5 rfl rfl rfl (by decide +kernel) ⟨(Nat.le_of_ble_eq_true rfl), (Nat.le_of_ble_eq_true rfl)⟩) (PV (hP.sub (ws' := ((a0, .inr (9, [.int 0, .int m_t.2.1, .int m_t.2.2, .ref a5, g14, g15, g16, g17, g18, g19, g20, g21, g22, g23, g24, .ref a6, g25, .ref a7, .ref a8, .int o70.2.2.1, .int o70.2.2.2, g26, g27, g28, g29, g30, g31, g32, g33, g34])) :: bX11 a5 uq kq q_q [])) [15, 0, 1, 2, 3, 4, 5, 6, 7, 8, 9, 10, 11, 12, 13, 14] rfl) (hK.sub (tys' := (tX11 kq ([]))) [0, 1, 2, 3, 4, 5, 6, 7, 8, 9, 10, 11, 12, 13] rfl) (hD.sub (ws' := ((a0, .inr (9, [.int 0, .int m_t.2.1, .int m_t.2.2, .ref a5, g14, g15, g16, g17, g18, g19, g20, g21, g22, g23, g24, .ref a6, g25, .ref a7, .ref a8, .int o70.2.2.1, .int o70.2.2.2, g26, g27, g28, g29, g30, g31, g32, g33, g34])) :: bX11 a5 uq kq q_q [])) [15, 0, 1, 2, 3, 4, 5, 6, 7, 8, 9, 10, 11, 12, 13, 14] (by decide) rfl) hN 0 rfl rfl) rfl rfl hl.1 rfl (lv_room (Nat.le_of_ble_eq_true rfl)) dX12_let_86 ⟨(Nat.le_of_ble_eq_true rfl), (Nat.le_of_ble_eq_true rfl)⟩) hP hD hK hS hA [15, 0, 1, 2, 3, 4, 5, 6, 7, 8, 9, 10, 11, 12, 13, 14] [16, 17, 18] rfl rfl (by decide) (by decide) (fun r86 _ H locs hw hP hD _ hS => ?_)
        obtain rfl := hw.symm
        have hP : va_P (dC, dI) vwCl ((a6, .inl (cB36, 26, .inl m_v)) :: (a7, .inl (cB37, 416, .inl o70.1)) :: (a8, .inl (cB38, 78, .inl o70.2.1)) :: (a0, .inr (9, [.int 0, .int m_t.2.1, .int m_t.2.2, .ref a5, g14, g15, g16, g17, g18, g19, g20, g21, g22, g23, g24, .ref a6, g25, .ref a7, .ref a8, .int o70.2.2.1, .int o70.2.2.2, g26, g27, g28, g29, g30, g31, g32, g33, g34])) :: bX11 a5 uq kq q_q []) H := hP
        have hD : va_D A ((a6, .inl (cB36, 26, .inl m_v)) :: (a7, .inl (cB37, 416, .inl o70.1)) :: (a8, .inl (cB38, 78, .inl o70.2.1)) :: (a0, .inr (9, [.int 0, .int m_t.2.1, .int m_t.2.2, .ref a5, g14, g15, g16, g17, g18, g19, g20, g21, g22, g23, g24, .ref a6, g25, .ref a7, .ref a8, .int o70.2.2.1, .int o70.2.2.2, g26, g27, g28, g29, g30, g31, g32, g33, g34])) :: bX11 a5 uq kq q_q []) := hD
        obtain ⟨hg89, h⟩ := gA_of h
        refine va_iast hx hb hK hP hD hS 0 14 rfl rfl hg89 dX12_let_89 (fun H locs hP hD hS => ?_)
        have hP : va_P (dC, dI) vwCl ((a6, .inl (cB36, 26, .inl (upd m_v (((18 : Int32) + k1)).toNatClampNeg o86))) :: (a7, .inl (cB37, 416, .inl o70.1)) :: (a8, .inl (cB38, 78, .inl o70.2.1)) :: (a0, .inr (9, [.int 0, .int m_t.2.1, .int m_t.2.2, .ref a5, g14, g15, g16, g17, g18, g19, g20, g21, g22, g23, g24, .ref a6, g25, .ref a7, .ref a8, .int o70.2.2.1, .int o70.2.2.2, g26, g27, g28, g29, g30, g31, g32, g33, g34])) :: bX11 a5 uq kq q_q []) H := hP
        have hD : va_D A ((a6, .inl (cB36, 26, .inl (upd m_v (((18 : Int32) + k1)).toNatClampNeg o86))) :: (a7, .inl (cB37, 416, .inl o70.1)) :: (a8, .inl (cB38, 78, .inl o70.2.1)) :: (a0, .inr (9, [.int 0, .int m_t.2.1, .int m_t.2.2, .ref a5, g14, g15, g16, g17, g18, g19, g20, g21, g22, g23, g24, .ref a6, g25, .ref a7, .ref a8, .int o70.2.2.1, .int o70.2.2.2, g26, g27, g28, g29, g30, g31, g32, g33, g34])) :: bX11 a5 uq kq q_q []) := hD
        refine lv_aload_n hx hb dX12_let_90 rfl (lv_at hl 1 rfl) ?_
        obtain ⟨o91, eo91⟩ : ∃ o, o = f_X12_granted ((0 : Int32), m_t.2) := ⟨_, rfl⟩
        have h := nm_of h o91 eo91
        refine cl_i (wc := ([(a0, .inr (9, [.int 0, .int m_t.2.1, .int m_t.2.2, .ref a5, g14, g15, g16, g17, g18, g19, g20, g21, g22, g23, g24, .ref a6, g25, .ref a7, .ref a8, .int o70.2.2.1, .int o70.2.2.2, g26, g27, g28, g29, g30, g31, g32, g33, g34]))])) (wr := ((a6, .inl (cB36, 26, .inl (upd m_v (((18 : Int32) + k1)).toNatClampNeg o86))) :: (a7, .inl (cB37, 416, .inl o70.1)) :: (a8, .inl (cB38, 78, .inl o70.2.1)) :: bX11 a5 uq kq q_q [])) (va_runV (As := []) (rest := []) ⟨hx, hb, hml, hown, hts⟩ (kfX12_granted l dC dI a0 ((0 : Int32), m_t.2) (.ref a5) (g14) (g15) (g16) (g17) (g18) (g19) (g20) (g21) (g22) (g23) (g24) (.ref a6) (g25) (.ref a7) (.ref a8) (.int o70.2.2.1) (.int o70.2.2.2) (g26) (g27) (g28) (g29) (g30) (g31) (g32) (g33) (g34) H.size o91 eo91.symm) (cwV 0 hts gfX12_let_6 rfl rfl rfl (by decide +kernel) ⟨(Nat.le_of_ble_eq_true rfl), (Nat.le_of_ble_eq_true rfl)⟩) (PV (hP.sub (ws' := ([(a0, .inr (9, [.int 0, .int m_t.2.1, .int m_t.2.2, .ref a5, g14, g15, g16, g17, g18, g19, g20, g21, g22, g23, g24, .ref a6, g25, .ref a7, .ref a8, .int o70.2.2.1, .int o70.2.2.2, g26, g27, g28, g29, g30, g31, g32, g33, g34]))])) [3] rfl) (hK.sub (tys' := ([])) [] rfl) (hD.sub (ws' := ([(a0, .inr (9, [.int 0, .int m_t.2.1, .int m_t.2.2, .ref a5, g14, g15, g16, g17, g18, g19, g20, g21, g22, g23, g24, .ref a6, g25, .ref a7, .ref a8, .int o70.2.2.1, .int o70.2.2.2, g26, g27, g28, g29, g30, g31, g32, g33, g34]))])) [3] (by decide) rfl) hN 0 rfl rfl) rfl rfl hl.1 rfl (lv_room (Nat.le_of_ble_eq_true rfl)) dX12_let_91 ⟨(Nat.le_of_ble_eq_true rfl), (Nat.le_of_ble_eq_true rfl)⟩) hP hD hK hS hA [3] [0, 1, 2, 4, 5, 6, 7, 8, 9, 10, 11, 12, 13, 14, 15, 16, 17, 18] rfl rfl (by decide) (by decide) (fun r91 _ H locs hw hP hD _ hS => ?_)
        obtain ⟨hw, br91⟩ := hw
        obtain rfl := hw
        have hP : va_P (dC, dI) vwCl ((a6, .inl (cB36, 26, .inl (upd m_v (((18 : Int32) + k1)).toNatClampNeg o86))) :: (a7, .inl (cB37, 416, .inl o70.1)) :: (a8, .inl (cB38, 78, .inl o70.2.1)) :: bX11 a5 uq kq q_q ([(a0, .inr (9, [.int o91.1, .int o91.2.1, .int o91.2.2, .ref a5, g14, g15, g16, g17, g18, g19, g20, g21, g22, g23, g24, .ref a6, g25, .ref a7, .ref a8, .int o70.2.2.1, .int o70.2.2.2, g26, g27, g28, g29, g30, g31, g32, g33, g34]))])) H := hP
        have hD : va_D A ((a6, .inl (cB36, 26, .inl (upd m_v (((18 : Int32) + k1)).toNatClampNeg o86))) :: (a7, .inl (cB37, 416, .inl o70.1)) :: (a8, .inl (cB38, 78, .inl o70.2.1)) :: bX11 a5 uq kq q_q ([(a0, .inr (9, [.int o91.1, .int o91.2.1, .int o91.2.2, .ref a5, g14, g15, g16, g17, g18, g19, g20, g21, g22, g23, g24, .ref a6, g25, .ref a7, .ref a8, .int o70.2.2.1, .int o70.2.2.2, g26, g27, g28, g29, g30, g31, g32, g33, g34]))])) := hD
        obtain rfl := Option.some.inj h
        have hP9 := hP.sub (ws' := ((a0, .inr (9, [.int o91.1, .int o91.2.1, .int o91.2.2, .ref a5, g14, g15, g16, g17, g18, g19, g20, g21, g22, g23, g24, .ref a6, g25, .ref a7, .ref a8, .int o70.2.2.1, .int o70.2.2.2, g26, g27, g28, g29, g30, g31, g32, g33, g34])) :: bX11 a5 uq kq q_q ([(a6, .inl (cB36, 26, .inl (upd m_v (((18 : Int32) + k1)).toNatClampNeg o86))), (a7, .inl (cB37, 416, .inl o70.1)), (a8, .inl (cB38, 78, .inl o70.2.1))]))) [18, 3, 4, 5, 6, 7, 8, 9, 10, 11, 12, 13, 14, 15, 16, 17, 0, 1, 2] rfl
        have hD9 := hD.sub (ws' := ((a0, .inr (9, [.int o91.1, .int o91.2.1, .int o91.2.2, .ref a5, g14, g15, g16, g17, g18, g19, g20, g21, g22, g23, g24, .ref a6, g25, .ref a7, .ref a8, .int o70.2.2.1, .int o70.2.2.2, g26, g27, g28, g29, g30, g31, g32, g33, g34])) :: bX11 a5 uq kq q_q ([(a6, .inl (cB36, 26, .inl (upd m_v (((18 : Int32) + k1)).toNatClampNeg o86))), (a7, .inl (cB37, 416, .inl o70.1)), (a8, .inl (cB38, 78, .inl o70.2.1))]))) [18, 3, 4, 5, 6, 7, 8, 9, 10, 11, 12, 13, 14, 15, 16, 17, 0, 1, 2] (by decide) rfl
        have hK9 := hK.sub (tys' := []) [] rfl
        rw [hQQ]
        exact W.zret (v := (1 : Int32)) hx hb hr rfl (fun t ht hW => ⟨⟨(1 : Int32), (), rfl, ⟨rfl, (by decide)⟩, by rw [ht]; exact hP9, va_K.moved hW.alike hK9, hD9⟩, hS.F ht⟩) hS.2.2 dX12_let_94
      · have h := (if_neg c60).symm.trans h
        exact J63  H _ ls h  hP hD hS (lv_sub hl [1] rfl)
  · have h := (if_neg c22).symm.trans h
    refine lv_aload_n hx hb dX12_let_25 rfl (lv_at hl 1 rfl) ?_
    refine lv_iload hx hb dX12_let_26 (lv_at hl 0 rfl) ?_
    obtain ⟨o28, eo28⟩ : ∃ o, o = f_X12_denied o15 ((0 : Int32), m_t.2) := ⟨_, rfl⟩
    have h := nm_of h o28 eo28
    refine cl_i (wc := ([(a0, .inr (9, [.int 0, .int m_t.2.1, .int m_t.2.2, .ref a5, g14, g15, g16, g17, g18, g19, g20, g21, g22, g23, g24, .ref a6, g25, .ref a7, .ref a8, .int m_h.2.2.1, .int m_h.2.2.2, g26, g27, g28, g29, g30, g31, g32, g33, g34]))])) (wr := ((a6, .inl (cB36, 26, .inl m_v)) :: (a7, .inl (cB37, 416, .inl m_h.1)) :: (a8, .inl (cB38, 78, .inl m_h.2.1)) :: bX11 a5 uq kq q_q [])) (va_runV (As := [.int o15]) (rest := []) ⟨hx, hb, hml, hown, hts⟩ (kfX12_denied l dC dI a0 o15 ((0 : Int32), m_t.2) (.ref a5) (g14) (g15) (g16) (g17) (g18) (g19) (g20) (g21) (g22) (g23) (g24) (.ref a6) (g25) (.ref a7) (.ref a8) (.int m_h.2.2.1) (.int m_h.2.2.2) (g26) (g27) (g28) (g29) (g30) (g31) (g32) (g33) (g34) H.size o28 eo28.symm) (cwV 1 hts gfX12_let_2 rfl rfl rfl (by decide +kernel) ⟨(Nat.le_of_ble_eq_true rfl), (Nat.le_of_ble_eq_true rfl)⟩) (PV (hP.sub (ws' := ([(a0, .inr (9, [.int 0, .int m_t.2.1, .int m_t.2.2, .ref a5, g14, g15, g16, g17, g18, g19, g20, g21, g22, g23, g24, .ref a6, g25, .ref a7, .ref a8, .int m_h.2.2.1, .int m_h.2.2.2, g26, g27, g28, g29, g30, g31, g32, g33, g34]))])) [3] rfl) (hK.sub (tys' := ([])) [] rfl) (hD.sub (ws' := ([(a0, .inr (9, [.int 0, .int m_t.2.1, .int m_t.2.2, .ref a5, g14, g15, g16, g17, g18, g19, g20, g21, g22, g23, g24, .ref a6, g25, .ref a7, .ref a8, .int m_h.2.2.1, .int m_h.2.2.2, g26, g27, g28, g29, g30, g31, g32, g33, g34]))])) [3] (by decide) rfl) hN 0 rfl rfl) rfl rfl hl.1 rfl (lv_room (Nat.le_of_ble_eq_true rfl)) dX12_let_28 ⟨(Nat.le_of_ble_eq_true rfl), (Nat.le_of_ble_eq_true rfl)⟩) hP hD hK hS hA [3] [0, 1, 2, 4, 5, 6, 7, 8, 9, 10, 11, 12, 13, 14, 15, 16, 17, 18] rfl rfl (by decide) (by decide) (fun r28 _ H locs hw hP hD _ hS => ?_)
    obtain ⟨hw, br28⟩ := hw
    obtain rfl := hw
    have hP : va_P (dC, dI) vwCl ((a6, .inl (cB36, 26, .inl m_v)) :: (a7, .inl (cB37, 416, .inl m_h.1)) :: (a8, .inl (cB38, 78, .inl m_h.2.1)) :: bX11 a5 uq kq q_q ([(a0, .inr (9, [.int o28.1, .int o28.2.1, .int o28.2.2, .ref a5, g14, g15, g16, g17, g18, g19, g20, g21, g22, g23, g24, .ref a6, g25, .ref a7, .ref a8, .int m_h.2.2.1, .int m_h.2.2.2, g26, g27, g28, g29, g30, g31, g32, g33, g34]))])) H := hP
    have hD : va_D A ((a6, .inl (cB36, 26, .inl m_v)) :: (a7, .inl (cB37, 416, .inl m_h.1)) :: (a8, .inl (cB38, 78, .inl m_h.2.1)) :: bX11 a5 uq kq q_q ([(a0, .inr (9, [.int o28.1, .int o28.2.1, .int o28.2.2, .ref a5, g14, g15, g16, g17, g18, g19, g20, g21, g22, g23, g24, .ref a6, g25, .ref a7, .ref a8, .int m_h.2.2.1, .int m_h.2.2.2, g26, g27, g28, g29, g30, g31, g32, g33, g34]))])) := hD
    obtain rfl := Option.some.inj h
    have hP9 := hP.sub (ws' := ((a0, .inr (9, [.int o28.1, .int o28.2.1, .int o28.2.2, .ref a5, g14, g15, g16, g17, g18, g19, g20, g21, g22, g23, g24, .ref a6, g25, .ref a7, .ref a8, .int m_h.2.2.1, .int m_h.2.2.2, g26, g27, g28, g29, g30, g31, g32, g33, g34])) :: bX11 a5 uq kq q_q ([(a6, .inl (cB36, 26, .inl m_v)), (a7, .inl (cB37, 416, .inl m_h.1)), (a8, .inl (cB38, 78, .inl m_h.2.1))]))) [18, 3, 4, 5, 6, 7, 8, 9, 10, 11, 12, 13, 14, 15, 16, 17, 0, 1, 2] rfl
    have hD9 := hD.sub (ws' := ((a0, .inr (9, [.int o28.1, .int o28.2.1, .int o28.2.2, .ref a5, g14, g15, g16, g17, g18, g19, g20, g21, g22, g23, g24, .ref a6, g25, .ref a7, .ref a8, .int m_h.2.2.1, .int m_h.2.2.2, g26, g27, g28, g29, g30, g31, g32, g33, g34])) :: bX11 a5 uq kq q_q ([(a6, .inl (cB36, 26, .inl m_v)), (a7, .inl (cB37, 416, .inl m_h.1)), (a8, .inl (cB38, 78, .inl m_h.2.1))]))) [18, 3, 4, 5, 6, 7, 8, 9, 10, 11, 12, 13, 14, 15, 16, 17, 0, 1, 2] (by decide) rfl
    have hK9 := hK.sub (tys' := []) [] rfl
    rw [hQQ]
    exact W.zret (v := (0 : Int32)) hx hb hr rfl (fun t ht hW => ⟨⟨(0 : Int32), (), rfl, ⟨rfl, (by decide)⟩, by rw [ht]; exact hP9, va_K.moved hW.alike hK9, hD9⟩, hS.F ht⟩) hS.2.2 dX12_let_31
theorem dX12_drawIn_0 : decode cX12_drawIn 0 = .ok (.aload_n 0, 1) := by decide +kernel
theorem dX12_drawIn_1 : decode cX12_drawIn 1 = .ok (.iconst 0, 1) := by decide +kernel
theorem dX12_drawIn_10 : decode cX12_drawIn 10 = .ok (.ifCond .ne 9, 3) := by decide +kernel
theorem dX12_drawIn_13 : decode cX12_drawIn 13 = .ok (.aload_n 0, 1) := by decide +kernel
theorem dX12_drawIn_14 : decode cX12_drawIn 14 = .ok (.iconst 1, 1) := by decide +kernel
theorem dX12_drawIn_15 : decode cX12_drawIn 15 = .ok (.invokevirtual 498, 3) := by decide +kernel
theorem dX12_drawIn_18 : decode cX12_drawIn 18 = .ok (.ireturn, 1) := by decide +kernel
theorem dX12_drawIn_19 : decode cX12_drawIn 19 = .ok (.aload_n 0, 1) := by decide +kernel
theorem dX12_drawIn_2 : decode cX12_drawIn 2 = .ok (.putfield 36, 3) := by decide +kernel
theorem dX12_drawIn_20 : decode cX12_drawIn 20 = .ok (.getfield 17, 3) := by decide +kernel
theorem dX12_drawIn_23 : decode cX12_drawIn 23 = .ok (.bipush 18, 2) := by decide +kernel
theorem dX12_drawIn_25 : decode cX12_drawIn 25 = .ok (.iload_n 1, 1) := by decide +kernel
theorem dX12_drawIn_26 : decode cX12_drawIn 26 = .ok (.iadd, 1) := by decide +kernel
theorem dX12_drawIn_27 : decode cX12_drawIn 27 = .ok (.iaload, 1) := by decide +kernel
theorem dX12_drawIn_28 : decode cX12_drawIn 28 = .ok (.bipush (-2), 2) := by decide +kernel
theorem dX12_drawIn_30 : decode cX12_drawIn 30 = .ok (.if_icmp .ne 9, 3) := by decide +kernel
theorem dX12_drawIn_33 : decode cX12_drawIn 33 = .ok (.aload_n 0, 1) := by decide +kernel
theorem dX12_drawIn_34 : decode cX12_drawIn 34 = .ok (.iconst 5, 1) := by decide +kernel
theorem dX12_drawIn_35 : decode cX12_drawIn 35 = .ok (.invokevirtual 498, 3) := by decide +kernel
theorem dX12_drawIn_38 : decode cX12_drawIn 38 = .ok (.ireturn, 1) := by decide +kernel
theorem dX12_drawIn_39 : decode cX12_drawIn 39 = .ok (.aload_n 0, 1) := by decide +kernel
theorem dX12_drawIn_40 : decode cX12_drawIn 40 = .ok (.invokevirtual 501, 3) := by decide +kernel
theorem dX12_drawIn_43 : decode cX12_drawIn 43 = .ok (.aload_n 0, 1) := by decide +kernel
theorem dX12_drawIn_44 : decode cX12_drawIn 44 = .ok (.getfield 17, 3) := by decide +kernel
theorem dX12_drawIn_47 : decode cX12_drawIn 47 = .ok (.bipush 18, 2) := by decide +kernel
theorem dX12_drawIn_49 : decode cX12_drawIn 49 = .ok (.iload_n 1, 1) := by decide +kernel
theorem dX12_drawIn_5 : decode cX12_drawIn 5 = .ok (.aload_n 0, 1) := by decide +kernel
theorem dX12_drawIn_50 : decode cX12_drawIn 50 = .ok (.iadd, 1) := by decide +kernel
theorem dX12_drawIn_51 : decode cX12_drawIn 51 = .ok (.bipush (-2), 2) := by decide +kernel
theorem dX12_drawIn_53 : decode cX12_drawIn 53 = .ok (.iastore, 1) := by decide +kernel
theorem dX12_drawIn_54 : decode cX12_drawIn 54 = .ok (.aload_n 0, 1) := by decide +kernel
theorem dX12_drawIn_55 : decode cX12_drawIn 55 = .ok (.invokevirtual 504, 3) := by decide +kernel
theorem dX12_drawIn_58 : decode cX12_drawIn 58 = .ok (.ireturn, 1) := by decide +kernel
theorem dX12_drawIn_6 : decode cX12_drawIn 6 = .ok (.iload_n 1, 1) := by decide +kernel
theorem dX12_drawIn_7 : decode cX12_drawIn 7 = .ok (.invokevirtual 334, 3) := by decide +kernel
def vfX12_drawIn : List Cond := List.cons (.code yX12_drawIn cX12_drawIn 2 (some .boolean)) (apW [.fieldLink RX12 36 "HookPierModel" "thrown" "I", .methodLink RX12 334 yX12_isAsker, .instanceMethod yX12_isAsker, .selects RX12 yX12_isAsker yX12_isAsker, .initialized RX12, .fieldLink RX12 17 "HookPierModel" "v" "[I", .methodLink RX12 501 yX12_remembers, .instanceMethod yX12_remembers, .selects RX12 yX12_remembers yX12_remembers, .methodLink RX12 504 yX12_granted, .instanceMethod yX12_granted, .selects RX12 yX12_granted yX12_granted, .methodLink RX12 498 yX12_denied, .instanceMethod yX12_denied, .selects RX12 yX12_denied yX12_denied] (apW wsX120 (apW vfX12_isAsker (apW vfX12_remembers (apW vfX12_granted (vfX12_denied))))))
theorem ifX12_drawIn_X12 : ∀ w ∈ wsX120, w ∈ vfX12_drawIn := fun _ h => (List.mem_cons_of_mem _ (List.mem_append_right _ (List.mem_append_left _ h)))
theorem qfX12_drawIn : Good vfX12_drawIn := gd_cons (by decide +kernel) (gd_app (gd_dec (by decide +kernel) : Good [.fieldLink RX12 36 "HookPierModel" "thrown" "I", .methodLink RX12 334 yX12_isAsker, .instanceMethod yX12_isAsker, .selects RX12 yX12_isAsker yX12_isAsker, .initialized RX12, .fieldLink RX12 17 "HookPierModel" "v" "[I", .methodLink RX12 501 yX12_remembers, .instanceMethod yX12_remembers, .selects RX12 yX12_remembers yX12_remembers, .methodLink RX12 504 yX12_granted, .instanceMethod yX12_granted, .selects RX12 yX12_granted yX12_granted, .methodLink RX12 498 yX12_denied, .instanceMethod yX12_denied, .selects RX12 yX12_denied yX12_denied]) (gd_app qsX12 (gd_app qfX12_isAsker (gd_app qfX12_remembers (gd_app qfX12_granted qfX12_denied)))))
theorem gfX12_drawIn_0 : GoodIn vfX12_drawIn (wsV RX12 334 RX12 yX12_isAsker vfX12_isAsker) := goodIn_app (goodIn_r [.methodLink RX12 334 yX12_isAsker, .instanceMethod yX12_isAsker, .selects RX12 yX12_isAsker yX12_isAsker, .initialized RX12] [2, 3, 4, 5] rfl (by decide +kernel)) (goodIn_m (fun _ h => (List.mem_cons_of_mem _ (List.mem_append_right _ (List.mem_append_right _ (List.mem_append_left _ h))))) qfX12_isAsker)
theorem gfX12_drawIn_1 : GoodIn vfX12_drawIn (wsV RX12 501 RX12 yX12_remembers vfX12_remembers) := goodIn_app (goodIn_r [.methodLink RX12 501 yX12_remembers, .instanceMethod yX12_remembers, .selects RX12 yX12_remembers yX12_remembers, .initialized RX12] [7, 8, 9, 5] rfl (by decide +kernel)) (goodIn_m (fun _ h => (List.mem_cons_of_mem _ (List.mem_append_right _ (List.mem_append_right _ (List.mem_append_right _ (List.mem_append_left _ h)))))) qfX12_remembers)
theorem gfX12_drawIn_2 : GoodIn vfX12_drawIn (wsV RX12 504 RX12 yX12_granted vfX12_granted) := goodIn_app (goodIn_r [.methodLink RX12 504 yX12_granted, .instanceMethod yX12_granted, .selects RX12 yX12_granted yX12_granted, .initialized RX12] [10, 11, 12, 5] rfl (by decide +kernel)) (goodIn_m (fun _ h => (List.mem_cons_of_mem _ (List.mem_append_right _ (List.mem_append_right _ (List.mem_append_right _ (List.mem_append_right _ (List.mem_append_left _ h))))))) qfX12_granted)
theorem gfX12_drawIn_3 : GoodIn vfX12_drawIn (wsV RX12 498 RX12 yX12_denied vfX12_denied) := goodIn_app (goodIn_r [.methodLink RX12 498 yX12_denied, .instanceMethod yX12_denied, .selects RX12 yX12_denied yX12_denied, .initialized RX12] [13, 14, 15, 5] rfl (by decide +kernel)) (goodIn_m (fun _ h => (List.mem_cons_of_mem _ (List.mem_append_right _ (List.mem_append_right _ (List.mem_append_right _ (List.mem_append_right _ (List.mem_append_right _ h))))))) qfX12_denied)
set_option maxHeartbeats 2000000 in
set_option maxRecDepth 100000 in
theorem kfX12_drawIn (l : Launch) (dC : Nat → ClassId) (dI : Nat → Nat → Nat) (a0 : Nat) (k1 : Int32) (a2 : Nat) (a3 : Nat) (a4 : Nat) (a5 : Nat) (uq : Nat → Nat) (kq : Nat → ClassId) (m_t : TX12_t) (m_v : TX12_v) (m_h : TX12_h) (g11 : Value) (g12 : Value) (g13 : Value) (g14 : Value) (g15 : Value) (g16 : Value) (g17 : Value) (g18 : Value) (g19 : Value) (g20 : Value) (g21 : Value) (g22 : Value) (g23 : Value) (g24 : Value) (g25 : Value) (g26 : Value) (g27 : Value) (g28 : Value) (g29 : Value) (g30 : Value) (g31 : Value) (q_q : TX11_q) (cB33 : ClassId) (cB34 : ClassId) (cB35 : ClassId) (sz : Nat) (out : (Int32 × TX12_t × TX12_v × TX12_h)) (h : f_X12_drawIn k1 m_t m_v m_h q_q = some out) : Met l yX12_drawIn vfX12_drawIn ({ frames := 2, cells := 0, slots := 0, locals := 42 }) (PC (dC, dI) [.ref a0, .int k1] sz ((a0, .inr (9, [.int m_t.1, .int m_t.2.1, .int m_t.2.2, .ref a2, g11, g12, g13, g14, g15, g16, g17, g18, g19, g20, g21, .ref a3, g22, .ref a4, .ref a5, .int m_h.2.2.1, .int m_h.2.2.2, g23, g24, g25, g26, g27, g28, g29, g30, g31])) :: bX11 a2 uq kq q_q ([(a3, .inl (cB33, 26, .inl m_v)), (a4, .inl (cB34, 416, .inl m_h.1)), (a5, .inl (cB35, 78, .inl m_h.2.1))])) (tX11 kq ((cB33, .int) :: (cB34, .int) :: (cB35, .int) :: []))) (va_Qi (S := Unit) (fun (r : Int32) _ => r = out.1 ∧ (0 ≤ r.toInt ∧ r.toInt ≤ 1)) (fun _ t => BC (dC, dI) (va_A ((a0, .inr (9, [.int m_t.1, .int m_t.2.1, .int m_t.2.2, .ref a2, g11, g12, g13, g14, g15, g16, g17, g18, g19, g20, g21, .ref a3, g22, .ref a4, .ref a5, .int m_h.2.2.1, .int m_h.2.2.2, g23, g24, g25, g26, g27, g28, g29, g30, g31])) :: bX11 a2 uq kq q_q ([(a3, .inl (cB33, 26, .inl m_v)), (a4, .inl (cB34, 416, .inl m_h.1)), (a5, .inl (cB35, 78, .inl m_h.2.1))])) sz) ((a0, .inr (9, [.int out.2.1.1, .int out.2.1.2.1, .int out.2.1.2.2, .ref a2, g11, g12, g13, g14, g15, g16, g17, g18, g19, g20, g21, .ref a3, g22, .ref a4, .ref a5, .int out.2.2.2.2.2.1, .int out.2.2.2.2.2.2, g23, g24, g25, g26, g27, g28, g29, g30, g31])) :: bX11 a2 uq kq q_q ([(a3, .inl (cB33, 26, .inl out.2.2.1)), (a4, .inl (cB34, 416, .inl out.2.2.2.1)), (a5, .inl (cB35, 78, .inl out.2.2.2.2.1))])) [] t) (va_A ((a0, .inr (9, [.int m_t.1, .int m_t.2.1, .int m_t.2.2, .ref a2, g11, g12, g13, g14, g15, g16, g17, g18, g19, g20, g21, .ref a3, g22, .ref a4, .ref a5, .int m_h.2.2.1, .int m_h.2.2.2, g23, g24, g25, g26, g27, g28, g29, g30, g31])) :: bX11 a2 uq kq q_q ([(a3, .inl (cB33, 26, .inl m_v)), (a4, .inl (cB34, 416, .inl m_h.1)), (a5, .inl (cB35, 78, .inl m_h.2.1))])) sz)) 0 0 (va_A ((a0, .inr (9, [.int m_t.1, .int m_t.2.1, .int m_t.2.2, .ref a2, g11, g12, g13, g14, g15, g16, g17, g18, g19, g20, g21, .ref a3, g22, .ref a4, .ref a5, .int m_h.2.2.1, .int m_h.2.2.2, g23, g24, g25, g26, g27, g28, g29, g30, g31])) :: bX11 a2 uq kq q_q ([(a3, .inl (cB33, 26, .inl m_v)), (a4, .inl (cB34, 416, .inl m_h.1)), (a5, .inl (cB35, 78, .inl m_h.2.1))])) sz) := by
  refine Met.ofW (cc := cX12_drawIn) (maxL := 2) (ret := (some .boolean)) (by decide) rfl ?_
  intro p e s m args below meth c s₁ B0 hml hv
  obtain ⟨rfl, hsz, hP, hK, hD0, hN⟩ := hv
  have hx := B0.exec
  have hb := B0.bytes
  have hr := B0.returns
  have hts := atoms_spec (ws := vfX12_drawIn) B0.pre
  have hown : s.vm.findClass RX12 = some m.cls := findClass_of_methodNamed B0.named
  have hlocks := B0.notSynchronized
  subst hsz
  have hD := hD0.self (sz := s.heap.size)
  generalize hAe : va_A ((a0, .inr (9, [.int m_t.1, .int m_t.2.1, .int m_t.2.2, .ref a2, g11, g12, g13, g14, g15, g16, g17, g18, g19, g20, g21, .ref a3, g22, .ref a4, .ref a5, .int m_h.2.2.1, .int m_h.2.2.2, g23, g24, g25, g26, g27, g28, g29, g30, g31])) :: bX11 a2 uq kq q_q ([(a3, .inl (cB33, 26, .inl m_v)), (a4, .inl (cB34, 416, .inl m_h.1)), (a5, .inl (cB35, 78, .inl m_h.2.1))])) s.heap.size = A at hD ⊢
  have hA : ∀ q : Nat, s.heap.size ≤ q → A q := fun q h => by rw [← hAe]; exact Or.inr h
  have hS : va_S A s.heap s.heap [] := va_S.rf
  have hP : va_P (dC, dI) vwCl ((a0, .inr (9, [.int m_t.1, .int m_t.2.1, .int m_t.2.2, .ref a2, g11, g12, g13, g14, g15, g16, g17, g18, g19, g20, g21, .ref a3, g22, .ref a4, .ref a5, .int m_h.2.2.1, .int m_h.2.2.2, g23, g24, g25, g26, g27, g28, g29, g30, g31])) :: bX11 a2 uq kq q_q ([(a3, .inl (cB33, 26, .inl m_v)), (a4, .inl (cB34, 416, .inl m_h.1)), (a5, .inl (cB35, 78, .inl m_h.2.1))])) s.heap := hP
  have hl := lv_entry ([.ref a0, .int k1]) (n := 2) (Nat.le_of_ble_eq_true rfl)
  rw [lg_entry_eq]
  generalize (lg_sl ([.ref a0, .int k1]) ++ List.replicate (2 - (lg_sl ([.ref a0, .int k1])).length) Slot.unset).toArray = ls at hl ⊢
  have hl : lv_has ls 2 [(0, .ref a0), (1, .int k1)] := hl
  refine W_q (fun QQ hQQ => ?_)
  rw [f_X12_drawIn] at h
  refine lv_aload_n hx hb dX12_drawIn_0 rfl (lv_at hl 0 rfl) ?_
  refine lv_iconst (v := 0) hx hb dX12_drawIn_1 (by decide) ?_
  refine va_put (D := (dC, dI)) (ci := 9) (v := .int 0) (ty := .int) (C := RX12) (T := TX12) (N := 30) hx hb hts ifX12_drawIn_X12 tyX12 tyX12_ok nmX12 hown hK hP hD hS 0 rfl rfl 0 (by decide) (hts (.fieldLink RX12 36 "HookPierModel" "thrown" "I") (List.mem_of_getElem? (i := 1) rfl)) (fun _ h9 => h9) rfl (by decide +kernel) rfl rfl (Nat.le_of_ble_eq_true rfl) dX12_drawIn_2 (fun H locs hP hD hS => ?_)
  have hP : va_P (dC, dI) vwCl ((a0, .inr (9, [.int 0, .int m_t.2.1, .int m_t.2.2, .ref a2, g11, g12, g13, g14, g15, g16, g17, g18, g19, g20, g21, .ref a3, g22, .ref a4, .ref a5, .int m_h.2.2.1, .int m_h.2.2.2, g23, g24, g25, g26, g27, g28, g29, g30, g31])) :: bX11 a2 uq kq q_q ([(a3, .inl (cB33, 26, .inl m_v)), (a4, .inl (cB34, 416, .inl m_h.1)), (a5, .inl (cB35, 78, .inl m_h.2.1))])) H := hP
  have hD : va_D A ((a0, .inr (9, [.int 0, .int m_t.2.1, .int m_t.2.2, .ref a2, g11, g12, g13, g14, g15, g16, g17, g18, g19, g20, g21, .ref a3, g22, .ref a4, .ref a5, .int m_h.2.2.1, .int m_h.2.2.2, g23, g24, g25, g26, g27, g28, g29, g30, g31])) :: bX11 a2 uq kq q_q ([(a3, .inl (cB33, 26, .inl m_v)), (a4, .inl (cB34, 416, .inl m_h.1)), (a5, .inl (cB35, 78, .inl m_h.2.1))])) := hD
  refine lv_aload_n hx hb dX12_drawIn_5 rfl (lv_at hl 0 rfl) ?_
  refine lv_iload_n hx hb dX12_drawIn_6 rfl (lv_at hl 1 rfl) ?_
  obtain ⟨o7, eo7⟩ : ∃ o, o = f_X12_isAsker k1 q_q := ⟨_, rfl⟩
  have h := nm_of h o7 eo7
  refine cl_i (wc := ((a0, .inr (9, [.int 0, .int m_t.2.1, .int m_t.2.2, .ref a2, g11, g12, g13, g14, g15, g16, g17, g18, g19, g20, g21, .ref a3, g22, .ref a4, .ref a5, .int m_h.2.2.1, .int m_h.2.2.2, g23, g24, g25, g26, g27, g28, g29, g30, g31])) :: bX11 a2 uq kq q_q [])) (wr := ([(a3, .inl (cB33, 26, .inl m_v)), (a4, .inl (cB34, 416, .inl m_h.1)), (a5, .inl (cB35, 78, .inl m_h.2.1))])) (va_runV (As := [.int k1]) (rest := []) ⟨hx, hb, hml, hown, hts⟩ (kfX12_isAsker l dC dI a0 k1 a2 uq kq (.int 0) (.int m_t.2.1) (.int m_t.2.2) (g11) (g12) (g13) (g14) (g15) (g16) (g17) (g18) (g19) (g20) (g21) (.ref a3) (g22) (.ref a4) (.ref a5) (.int m_h.2.2.1) (.int m_h.2.2.2) (g23) (g24) (g25) (g26) (g27) (g28) (g29) (g30) (g31) q_q H.size o7 eo7.symm) (cwV 1 hts gfX12_drawIn_0 rfl rfl rfl (by decide +kernel) ⟨(Nat.le_of_ble_eq_true rfl), (Nat.le_of_ble_eq_true rfl)⟩) (PV (hP.sub (ws' := ((a0, .inr (9, [.int 0, .int m_t.2.1, .int m_t.2.2, .ref a2, g11, g12, g13, g14, g15, g16, g17, g18, g19, g20, g21, .ref a3, g22, .ref a4, .ref a5, .int m_h.2.2.1, .int m_h.2.2.2, g23, g24, g25, g26, g27, g28, g29, g30, g31])) :: bX11 a2 uq kq q_q [])) [0, 1, 2, 3, 4, 5, 6, 7, 8, 9, 10, 11, 12, 13, 14, 15] rfl) (hK.sub (tys' := (tX11 kq ([]))) [0, 1, 2, 3, 4, 5, 6, 7, 8, 9, 10, 11, 12, 13] rfl) (hD.sub (ws' := ((a0, .inr (9, [.int 0, .int m_t.2.1, .int m_t.2.2, .ref a2, g11, g12, g13, g14, g15, g16, g17, g18, g19, g20, g21, .ref a3, g22, .ref a4, .ref a5, .int m_h.2.2.1, .int m_h.2.2.2, g23, g24, g25, g26, g27, g28, g29, g30, g31])) :: bX11 a2 uq kq q_q [])) [0, 1, 2, 3, 4, 5, 6, 7, 8, 9, 10, 11, 12, 13, 14, 15] (by decide) rfl) hN 0 rfl rfl) rfl rfl hl.1 rfl (lv_room (Nat.le_of_ble_eq_true rfl)) dX12_drawIn_7 ⟨(Nat.le_of_ble_eq_true rfl), (Nat.le_of_ble_eq_true rfl)⟩) hP hD hK hS hA [0, 1, 2, 3, 4, 5, 6, 7, 8, 9, 10, 11, 12, 13, 14, 15] [16, 17, 18] rfl rfl (by decide) (by decide) (fun r7 _ H locs hw hP hD _ hS => ?_)
  obtain ⟨hw, br7⟩ := hw
  obtain rfl := hw.symm
  have hP : va_P (dC, dI) vwCl ((a3, .inl (cB33, 26, .inl m_v)) :: (a4, .inl (cB34, 416, .inl m_h.1)) :: (a5, .inl (cB35, 78, .inl m_h.2.1)) :: (a0, .inr (9, [.int 0, .int m_t.2.1, .int m_t.2.2, .ref a2, g11, g12, g13, g14, g15, g16, g17, g18, g19, g20, g21, .ref a3, g22, .ref a4, .ref a5, .int m_h.2.2.1, .int m_h.2.2.2, g23, g24, g25, g26, g27, g28, g29, g30, g31])) :: bX11 a2 uq kq q_q []) H := hP
  have hD : va_D A ((a3, .inl (cB33, 26, .inl m_v)) :: (a4, .inl (cB34, 416, .inl m_h.1)) :: (a5, .inl (cB35, 78, .inl m_h.2.1)) :: (a0, .inr (9, [.int 0, .int m_t.2.1, .int m_t.2.2, .ref a2, g11, g12, g13, g14, g15, g16, g17, g18, g19, g20, g21, .ref a3, g22, .ref a4, .ref a5, .int m_h.2.2.1, .int m_h.2.2.2, g23, g24, g25, g26, g27, g28, g29, g30, g31])) :: bX11 a2 uq kq q_q []) := hD
  refine lv_if_ne (tgt := 19) hx hb dX12_drawIn_10 (by decide) (fun c10 => ?_) (fun c10 => ?_)
  · have h := (if_neg c10).symm.trans h
    refine lv_aload_n hx hb dX12_drawIn_19 rfl (lv_at hl 0 rfl) ?_
    refine va_get (D := (dC, dI)) (ci := 9) (v := .ref a3) (C := RX12) (T := TX12) (N := 30) hx hb hts ifX12_drawIn_X12 hown hK hP 3 rfl rfl 15 (by decide) (hts (.fieldLink RX12 17 "HookPierModel" "v" "[I") (List.mem_of_getElem? (i := 6) rfl)) (fun _ h9 => h9) rfl dX12_drawIn_20 ?_
    refine lv_bipush (v := 18) hx hb dX12_drawIn_23 (by decide) ?_
    refine lv_iload_n hx hb dX12_drawIn_25 rfl (lv_at hl 1 rfl) ?_
    refine lv_iadd hx hb dX12_drawIn_26 ?_
    obtain ⟨hg27, h⟩ := gA_of h
    refine va_iald hx hb hK hP 0 14 rfl rfl hg27 dX12_drawIn_27 ?_
    refine lv_bipush (v := (-2)) hx hb dX12_drawIn_28 (by decide) ?_
    refine lv_icmp_ne (tgt := 39) hx hb dX12_drawIn_30 (by decide) (fun c30 => ?_) (fun c30 => ?_)
    · have h := (if_neg c30).symm.trans h
      refine lv_aload_n hx hb dX12_drawIn_39 rfl (lv_at hl 0 rfl) ?_
      obtain ⟨o40, eo40, h⟩ := bd_of h
      refine cl_v (wc := ([(a0, .inr (9, [.int 0, .int m_t.2.1, .int m_t.2.2, .ref a2, g11, g12, g13, g14, g15, g16, g17, g18, g19, g20, g21, .ref a3, g22, .ref a4, .ref a5, .int m_h.2.2.1, .int m_h.2.2.2, g23, g24, g25, g26, g27, g28, g29, g30, g31])), (a3, .inl (cB33, 26, .inl m_v)), (a4, .inl (cB34, 416, .inl m_h.1)), (a5, .inl (cB35, 78, .inl m_h.2.1))])) (wr := (bX11 a2 uq kq q_q [])) (va_runV (As := []) (rest := []) ⟨hx, hb, hml, hown, hts⟩ (kfX12_remembers l dC dI a0 a3 a4 a5 m_v m_h (.int 0) (.int m_t.2.1) (.int m_t.2.2) (.ref a2) (g11) (g12) (g13) (g14) (g15) (g16) (g17) (g18) (g19) (g20) (g21) (g22) (g23) (g24) (g25) (g26) (g27) (g28) (g29) (g30) (g31) cB33 cB34 cB35 H.size o40 eo40) (cwV 0 hts gfX12_drawIn_1 rfl rfl rfl (by decide +kernel) ⟨(Nat.le_of_ble_eq_true rfl), (Nat.le_of_ble_eq_true rfl)⟩) (PV (hP.sub (ws' := ([(a0, .inr (9, [.int 0, .int m_t.2.1, .int m_t.2.2, .ref a2, g11, g12, g13, g14, g15, g16, g17, g18, g19, g20, g21, .ref a3, g22, .ref a4, .ref a5, .int m_h.2.2.1, .int m_h.2.2.2, g23, g24, g25, g26, g27, g28, g29, g30, g31])), (a3, .inl (cB33, 26, .inl m_v)), (a4, .inl (cB34, 416, .inl m_h.1)), (a5, .inl (cB35, 78, .inl m_h.2.1))])) [3, 0, 1, 2] rfl) (hK.sub (tys' := ((cB33, .int) :: (cB34, .int) :: (cB35, .int) :: [])) [14, 15, 16] rfl) (hD.sub (ws' := ([(a0, .inr (9, [.int 0, .int m_t.2.1, .int m_t.2.2, .ref a2, g11, g12, g13, g14, g15, g16, g17, g18, g19, g20, g21, .ref a3, g22, .ref a4, .ref a5, .int m_h.2.2.1, .int m_h.2.2.2, g23, g24, g25, g26, g27, g28, g29, g30, g31])), (a3, .inl (cB33, 26, .inl m_v)), (a4, .inl (cB34, 416, .inl m_h.1)), (a5, .inl (cB35, 78, .inl m_h.2.1))])) [3, 0, 1, 2] (by decide) rfl) hN 0 rfl rfl) rfl rfl hl.1 rfl (lv_room (Nat.le_of_ble_eq_true rfl)) dX12_drawIn_40 ⟨(Nat.le_of_ble_eq_true rfl), (Nat.le_of_ble_eq_true rfl)⟩) hP hD hK hS hA [3, 0, 1, 2] [4, 5, 6, 7, 8, 9, 10, 11, 12, 13, 14, 15, 16, 17, 18] rfl rfl (by decide) (by decide) (fun _ H locs hw hP hD _ hS => ?_)
      have hP : va_P (dC, dI) vwCl (bX11 a2 uq kq q_q ([(a0, .inr (9, [.int 0, .int m_t.2.1, .int m_t.2.2, .ref a2, g11, g12, g13, g14, g15, g16, g17, g18, g19, g20, g21, .ref a3, g22, .ref a4, .ref a5, .int o40.2.2.1, .int o40.2.2.2, g23, g24, g25, g26, g27, g28, g29, g30, g31])), (a3, .inl (cB33, 26, .inl m_v)), (a4, .inl (cB34, 416, .inl o40.1)), (a5, .inl (cB35, 78, .inl o40.2.1))])) H := hP
      have hD : va_D A (bX11 a2 uq kq q_q ([(a0, .inr (9, [.int 0, .int m_t.2.1, .int m_t.2.2, .ref a2, g11, g12, g13, g14, g15, g16, g17, g18, g19, g20, g21, .ref a3, g22, .ref a4, .ref a5, .int o40.2.2.1, .int o40.2.2.2, g23, g24, g25, g26, g27, g28, g29, g30, g31])), (a3, .inl (cB33, 26, .inl m_v)), (a4, .inl (cB34, 416, .inl o40.1)), (a5, .inl (cB35, 78, .inl o40.2.1))])) := hD
      refine lv_aload_n hx hb dX12_drawIn_43 rfl (lv_at hl 0 rfl) ?_
      refine va_get (D := (dC, dI)) (ci := 9) (v := .ref a3) (C := RX12) (T := TX12) (N := 30) hx hb hts ifX12_drawIn_X12 hown hK hP 15 rfl rfl 15 (by decide) (hts (.fieldLink RX12 17 "HookPierModel" "v" "[I") (List.mem_of_getElem? (i := 6) rfl)) (fun _ h9 => h9) rfl dX12_drawIn_44 ?_
      refine lv_bipush (v := 18) hx hb dX12_drawIn_47 (by decide) ?_
      refine lv_iload_n hx hb dX12_drawIn_49 rfl (lv_at hl 1 rfl) ?_
      refine lv_iadd hx hb dX12_drawIn_50 ?_
      refine lv_bipush (v := (-2)) hx hb dX12_drawIn_51 (by decide) ?_
      obtain ⟨hg53, h⟩ := gA_of h
      refine va_iast hx hb hK hP hD hS 16 14 rfl rfl hg53 dX12_drawIn_53 (fun H locs hP hD hS => ?_)
      have hP : va_P (dC, dI) vwCl (bX11 a2 uq kq q_q ([(a0, .inr (9, [.int 0, .int m_t.2.1, .int m_t.2.2, .ref a2, g11, g12, g13, g14, g15, g16, g17, g18, g19, g20, g21, .ref a3, g22, .ref a4, .ref a5, .int o40.2.2.1, .int o40.2.2.2, g23, g24, g25, g26, g27, g28, g29, g30, g31])), (a3, .inl (cB33, 26, .inl (upd m_v (((18 : Int32) + k1)).toNatClampNeg (-2 : Int32)))), (a4, .inl (cB34, 416, .inl o40.1)), (a5, .inl (cB35, 78, .inl o40.2.1))])) H := hP
      have hD : va_D A (bX11 a2 uq kq q_q ([(a0, .inr (9, [.int 0, .int m_t.2.1, .int m_t.2.2, .ref a2, g11, g12, g13, g14, g15, g16, g17, g18, g19, g20, g21, .ref a3, g22, .ref a4, .ref a5, .int o40.2.2.1, .int o40.2.2.2, g23, g24, g25, g26, g27, g28, g29, g30, g31])), (a3, .inl (cB33, 26, .inl (upd m_v (((18 : Int32) + k1)).toNatClampNeg (-2 : Int32)))), (a4, .inl (cB34, 416, .inl o40.1)), (a5, .inl (cB35, 78, .inl o40.2.1))])) := hD
      refine lv_aload_n hx hb dX12_drawIn_54 rfl (lv_at hl 0 rfl) ?_
      obtain ⟨o55, eo55⟩ : ∃ o, o = f_X12_granted ((0 : Int32), m_t.2) := ⟨_, rfl⟩
      have h := nm_of h o55 eo55
      refine cl_i (wc := ([(a0, .inr (9, [.int 0, .int m_t.2.1, .int m_t.2.2, .ref a2, g11, g12, g13, g14, g15, g16, g17, g18, g19, g20, g21, .ref a3, g22, .ref a4, .ref a5, .int o40.2.2.1, .int o40.2.2.2, g23, g24, g25, g26, g27, g28, g29, g30, g31]))])) (wr := (bX11 a2 uq kq q_q ([(a3, .inl (cB33, 26, .inl (upd m_v (((18 : Int32) + k1)).toNatClampNeg (-2 : Int32)))), (a4, .inl (cB34, 416, .inl o40.1)), (a5, .inl (cB35, 78, .inl o40.2.1))]))) (va_runV (As := []) (rest := []) ⟨hx, hb, hml, hown, hts⟩ (kfX12_granted l dC dI a0 ((0 : Int32), m_t.2) (.ref a2) (g11) (g12) (g13) (g14) (g15) (g16) (g17) (g18) (g19) (g20) (g21) (.ref a3) (g22) (.ref a4) (.ref a5) (.int o40.2.2.1) (.int o40.2.2.2) (g23) (g24) (g25) (g26) (g27) (g28) (g29) (g30) (g31) H.size o55 eo55.symm) (cwV 0 hts gfX12_drawIn_2 rfl rfl rfl (by decide +kernel) ⟨(Nat.le_of_ble_eq_true rfl), (Nat.le_of_ble_eq_true rfl)⟩) (PV (hP.sub (ws' := ([(a0, .inr (9, [.int 0, .int m_t.2.1, .int m_t.2.2, .ref a2, g11, g12, g13, g14, g15, g16, g17, g18, g19, g20, g21, .ref a3, g22, .ref a4, .ref a5, .int o40.2.2.1, .int o40.2.2.2, g23, g24, g25, g26, g27, g28, g29, g30, g31]))])) [15] rfl) (hK.sub (tys' := ([])) [] rfl) (hD.sub (ws' := ([(a0, .inr (9, [.int 0, .int m_t.2.1, .int m_t.2.2, .ref a2, g11, g12, g13, g14, g15, g16, g17, g18, g19, g20, g21, .ref a3, g22, .ref a4, .ref a5, .int o40.2.2.1, .int o40.2.2.2, g23, g24, g25, g26, g27, g28, g29, g30, g31]))])) [15] (by decide) rfl) hN 0 rfl rfl) rfl rfl hl.1 rfl (lv_room (Nat.le_of_ble_eq_true rfl)) dX12_drawIn_55 ⟨(Nat.le_of_ble_eq_true rfl), (Nat.le_of_ble_eq_true rfl)⟩) hP hD hK hS hA [15] [0, 1, 2, 3, 4, 5, 6, 7, 8, 9, 10, 11, 12, 13, 14, 16, 17, 18] rfl rfl (by decide) (by decide) (fun r55 _ H locs hw hP hD _ hS => ?_)
      obtain ⟨hw, br55⟩ := hw
      obtain rfl := hw
      have hP : va_P (dC, dI) vwCl (bX11 a2 uq kq q_q ([(a3, .inl (cB33, 26, .inl (upd m_v (((18 : Int32) + k1)).toNatClampNeg (-2 : Int32)))), (a4, .inl (cB34, 416, .inl o40.1)), (a5, .inl (cB35, 78, .inl o40.2.1)), (a0, .inr (9, [.int o55.1, .int o55.2.1, .int o55.2.2, .ref a2, g11, g12, g13, g14, g15, g16, g17, g18, g19, g20, g21, .ref a3, g22, .ref a4, .ref a5, .int o40.2.2.1, .int o40.2.2.2, g23, g24, g25, g26, g27, g28, g29, g30, g31]))])) H := hP
      have hD : va_D A (bX11 a2 uq kq q_q ([(a3, .inl (cB33, 26, .inl (upd m_v (((18 : Int32) + k1)).toNatClampNeg (-2 : Int32)))), (a4, .inl (cB34, 416, .inl o40.1)), (a5, .inl (cB35, 78, .inl o40.2.1)), (a0, .inr (9, [.int o55.1, .int o55.2.1, .int o55.2.2, .ref a2, g11, g12, g13, g14, g15, g16, g17, g18, g19, g20, g21, .ref a3, g22, .ref a4, .ref a5, .int o40.2.2.1, .int o40.2.2.2, g23, g24, g25, g26, g27, g28, g29, g30, g31]))])) := hD
      obtain rfl := Option.some.inj h
      have hP9 := hP.sub (ws' := ((a0, .inr (9, [.int o55.1, .int o55.2.1, .int o55.2.2, .ref a2, g11, g12, g13, g14, g15, g16, g17, g18, g19, g20, g21, .ref a3, g22, .ref a4, .ref a5, .int o40.2.2.1, .int o40.2.2.2, g23, g24, g25, g26, g27, g28, g29, g30, g31])) :: bX11 a2 uq kq q_q ([(a3, .inl (cB33, 26, .inl (upd m_v (((18 : Int32) + k1)).toNatClampNeg (-2 : Int32)))), (a4, .inl (cB34, 416, .inl o40.1)), (a5, .inl (cB35, 78, .inl o40.2.1))]))) [18, 0, 1, 2, 3, 4, 5, 6, 7, 8, 9, 10, 11, 12, 13, 14, 15, 16, 17] rfl
      have hD9 := hD.sub (ws' := ((a0, .inr (9, [.int o55.1, .int o55.2.1, .int o55.2.2, .ref a2, g11, g12, g13, g14, g15, g16, g17, g18, g19, g20, g21, .ref a3, g22, .ref a4, .ref a5, .int o40.2.2.1, .int o40.2.2.2, g23, g24, g25, g26, g27, g28, g29, g30, g31])) :: bX11 a2 uq kq q_q ([(a3, .inl (cB33, 26, .inl (upd m_v (((18 : Int32) + k1)).toNatClampNeg (-2 : Int32)))), (a4, .inl (cB34, 416, .inl o40.1)), (a5, .inl (cB35, 78, .inl o40.2.1))]))) [18, 0, 1, 2, 3, 4, 5, 6, 7, 8, 9, 10, 11, 12, 13, 14, 15, 16, 17] (by decide) rfl
      have hK9 := hK.sub (tys' := []) [] rfl
      rw [hQQ]
      exact W.zret (v := (1 : Int32)) hx hb hr rfl (fun t ht hW => ⟨⟨(1 : Int32), (), rfl, ⟨rfl, (by decide)⟩, by rw [ht]; exact hP9, va_K.moved hW.alike hK9, hD9⟩, hS.F ht⟩) hS.2.2 dX12_drawIn_58
    · have h := (if_pos c30).symm.trans h
      refine lv_aload_n hx hb dX12_drawIn_33 rfl (lv_at hl 0 rfl) ?_
      refine lv_iconst (v := 5) hx hb dX12_drawIn_34 (by decide) ?_
      obtain ⟨o35, eo35⟩ : ∃ o, o = f_X12_denied (5 : Int32) ((0 : Int32), m_t.2) := ⟨_, rfl⟩
      have h := nm_of h o35 eo35
      refine cl_i (wc := ([(a0, .inr (9, [.int 0, .int m_t.2.1, .int m_t.2.2, .ref a2, g11, g12, g13, g14, g15, g16, g17, g18, g19, g20, g21, .ref a3, g22, .ref a4, .ref a5, .int m_h.2.2.1, .int m_h.2.2.2, g23, g24, g25, g26, g27, g28, g29, g30, g31]))])) (wr := ((a3, .inl (cB33, 26, .inl m_v)) :: (a4, .inl (cB34, 416, .inl m_h.1)) :: (a5, .inl (cB35, 78, .inl m_h.2.1)) :: bX11 a2 uq kq q_q [])) (va_runV (As := [.int 5]) (rest := []) ⟨hx, hb, hml, hown, hts⟩ (kfX12_denied l dC dI a0 (5 : Int32) ((0 : Int32), m_t.2) (.ref a2) (g11) (g12) (g13) (g14) (g15) (g16) (g17) (g18) (g19) (g20) (g21) (.ref a3) (g22) (.ref a4) (.ref a5) (.int m_h.2.2.1) (.int m_h.2.2.2) (g23) (g24) (g25) (g26) (g27) (g28) (g29) (g30) (g31) H.size o35 eo35.symm) (cwV 1 hts gfX12_drawIn_3 rfl rfl rfl (by decide +kernel) ⟨(Nat.le_of_ble_eq_true rfl), (Nat.le_of_ble_eq_true rfl)⟩) (PV (hP.sub (ws' := ([(a0, .inr (9, [.int 0, .int m_t.2.1, .int m_t.2.2, .ref a2, g11, g12, g13, g14, g15, g16, g17, g18, g19, g20, g21, .ref a3, g22, .ref a4, .ref a5, .int m_h.2.2.1, .int m_h.2.2.2, g23, g24, g25, g26, g27, g28, g29, g30, g31]))])) [3] rfl) (hK.sub (tys' := ([])) [] rfl) (hD.sub (ws' := ([(a0, .inr (9, [.int 0, .int m_t.2.1, .int m_t.2.2, .ref a2, g11, g12, g13, g14, g15, g16, g17, g18, g19, g20, g21, .ref a3, g22, .ref a4, .ref a5, .int m_h.2.2.1, .int m_h.2.2.2, g23, g24, g25, g26, g27, g28, g29, g30, g31]))])) [3] (by decide) rfl) hN 0 rfl rfl) rfl rfl hl.1 rfl (lv_room (Nat.le_of_ble_eq_true rfl)) dX12_drawIn_35 ⟨(Nat.le_of_ble_eq_true rfl), (Nat.le_of_ble_eq_true rfl)⟩) hP hD hK hS hA [3] [0, 1, 2, 4, 5, 6, 7, 8, 9, 10, 11, 12, 13, 14, 15, 16, 17, 18] rfl rfl (by decide) (by decide) (fun r35 _ H locs hw hP hD _ hS => ?_)
      obtain ⟨hw, br35⟩ := hw
      obtain rfl := hw
      have hP : va_P (dC, dI) vwCl ((a3, .inl (cB33, 26, .inl m_v)) :: (a4, .inl (cB34, 416, .inl m_h.1)) :: (a5, .inl (cB35, 78, .inl m_h.2.1)) :: bX11 a2 uq kq q_q ([(a0, .inr (9, [.int o35.1, .int o35.2.1, .int o35.2.2, .ref a2, g11, g12, g13, g14, g15, g16, g17, g18, g19, g20, g21, .ref a3, g22, .ref a4, .ref a5, .int m_h.2.2.1, .int m_h.2.2.2, g23, g24, g25, g26, g27, g28, g29, g30, g31]))])) H := hP
      have hD : va_D A ((a3, .inl (cB33, 26, .inl m_v)) :: (a4, .inl (cB34, 416, .inl m_h.1)) :: (a5, .inl (cB35, 78, .inl m_h.2.1)) :: bX11 a2 uq kq q_q ([(a0, .inr (9, [.int o35.1, .int o35.2.1, .int o35.2.2, .ref a2, g11, g12, g13, g14, g15, g16, g17, g18, g19, g20, g21, .ref a3, g22, .ref a4, .ref a5, .int m_h.2.2.1, .int m_h.2.2.2, g23, g24, g25, g26, g27, g28, g29, g30, g31]))])) := hD
      obtain rfl := Option.some.inj h
      have hP9 := hP.sub (ws' := ((a0, .inr (9, [.int o35.1, .int o35.2.1, .int o35.2.2, .ref a2, g11, g12, g13, g14, g15, g16, g17, g18, g19, g20, g21, .ref a3, g22, .ref a4, .ref a5, .int m_h.2.2.1, .int m_h.2.2.2, g23, g24, g25, g26, g27, g28, g29, g30, g31])) :: bX11 a2 uq kq q_q ([(a3, .inl (cB33, 26, .inl m_v)), (a4, .inl (cB34, 416, .inl m_h.1)), (a5, .inl (cB35, 78, .inl m_h.2.1))]))) [18, 3, 4, 5, 6, 7, 8, 9, 10, 11, 12, 13, 14, 15, 16, 17, 0, 1, 2] rfl
      have hD9 := hD.sub (ws' := ((a0, .inr (9, [.int o35.1, .int o35.2.1, .int o35.2.2, .ref a2, g11, g12, g13, g14, g15, g16, g17, g18, g19, g20, g21, .ref a3, g22, .ref a4, .ref a5, .int m_h.2.2.1, .int m_h.2.2.2, g23, g24, g25, g26, g27, g28, g29, g30, g31])) :: bX11 a2 uq kq q_q ([(a3, .inl (cB33, 26, .inl m_v)), (a4, .inl (cB34, 416, .inl m_h.1)), (a5, .inl (cB35, 78, .inl m_h.2.1))]))) [18, 3, 4, 5, 6, 7, 8, 9, 10, 11, 12, 13, 14, 15, 16, 17, 0, 1, 2] (by decide) rfl
      have hK9 := hK.sub (tys' := []) [] rfl
      rw [hQQ]
      exact W.zret (v := (0 : Int32)) hx hb hr rfl (fun t ht hW => ⟨⟨(0 : Int32), (), rfl, ⟨rfl, (by decide)⟩, by rw [ht]; exact hP9, va_K.moved hW.alike hK9, hD9⟩, hS.F ht⟩) hS.2.2 dX12_drawIn_38
  · have h := (if_pos c10).symm.trans h
    refine lv_aload_n hx hb dX12_drawIn_13 rfl (lv_at hl 0 rfl) ?_
    refine lv_iconst (v := 1) hx hb dX12_drawIn_14 (by decide) ?_
    obtain ⟨o15, eo15⟩ : ∃ o, o = f_X12_denied (1 : Int32) ((0 : Int32), m_t.2) := ⟨_, rfl⟩
    have h := nm_of h o15 eo15
    refine cl_i (wc := ([(a0, .inr (9, [.int 0, .int m_t.2.1, .int m_t.2.2, .ref a2, g11, g12, g13, g14, g15, g16, g17, g18, g19, g20, g21, .ref a3, g22, .ref a4, .ref a5, .int m_h.2.2.1, .int m_h.2.2.2, g23, g24, g25, g26, g27, g28, g29, g30, g31]))])) (wr := ((a3, .inl (cB33, 26, .inl m_v)) :: (a4, .inl (cB34, 416, .inl m_h.1)) :: (a5, .inl (cB35, 78, .inl m_h.2.1)) :: bX11 a2 uq kq q_q [])) (va_runV (As := [.int 1]) (rest := []) ⟨hx, hb, hml, hown, hts⟩ (kfX12_denied l dC dI a0 (1 : Int32) ((0 : Int32), m_t.2) (.ref a2) (g11) (g12) (g13) (g14) (g15) (g16) (g17) (g18) (g19) (g20) (g21) (.ref a3) (g22) (.ref a4) (.ref a5) (.int m_h.2.2.1) (.int m_h.2.2.2) (g23) (g24) (g25) (g26) (g27) (g28) (g29) (g30) (g31) H.size o15 eo15.symm) (cwV 1 hts gfX12_drawIn_3 rfl rfl rfl (by decide +kernel) ⟨(Nat.le_of_ble_eq_true rfl), (Nat.le_of_ble_eq_true rfl)⟩) (PV (hP.sub (ws' := ([(a0, .inr (9, [.int 0, .int m_t.2.1, .int m_t.2.2, .ref a2, g11, g12, g13, g14, g15, g16, g17, g18, g19, g20, g21, .ref a3, g22, .ref a4, .ref a5, .int m_h.2.2.1, .int m_h.2.2.2, g23, g24, g25, g26, g27, g28, g29, g30, g31]))])) [3] rfl) (hK.sub (tys' := ([])) [] rfl) (hD.sub (ws' := ([(a0, .inr (9, [.int 0, .int m_t.2.1, .int m_t.2.2, .ref a2, g11, g12, g13, g14, g15, g16, g17, g18, g19, g20, g21, .ref a3, g22, .ref a4, .ref a5, .int m_h.2.2.1, .int m_h.2.2.2, g23, g24, g25, g26, g27, g28, g29, g30, g31]))])) [3] (by decide) rfl) hN 0 rfl rfl) rfl rfl hl.1 rfl (lv_room (Nat.le_of_ble_eq_true rfl)) dX12_drawIn_15 ⟨(Nat.le_of_ble_eq_true rfl), (Nat.le_of_ble_eq_true rfl)⟩) hP hD hK hS hA [3] [0, 1, 2, 4, 5, 6, 7, 8, 9, 10, 11, 12, 13, 14, 15, 16, 17, 18] rfl rfl (by decide) (by decide) (fun r15 _ H locs hw hP hD _ hS => ?_)
    obtain ⟨hw, br15⟩ := hw
    obtain rfl := hw
    have hP : va_P (dC, dI) vwCl ((a3, .inl (cB33, 26, .inl m_v)) :: (a4, .inl (cB34, 416, .inl m_h.1)) :: (a5, .inl (cB35, 78, .inl m_h.2.1)) :: bX11 a2 uq kq q_q ([(a0, .inr (9, [.int o15.1, .int o15.2.1, .int o15.2.2, .ref a2, g11, g12, g13, g14, g15, g16, g17, g18, g19, g20, g21, .ref a3, g22, .ref a4, .ref a5, .int m_h.2.2.1, .int m_h.2.2.2, g23, g24, g25, g26, g27, g28, g29, g30, g31]))])) H := hP
    have hD : va_D A ((a3, .inl (cB33, 26, .inl m_v)) :: (a4, .inl (cB34, 416, .inl m_h.1)) :: (a5, .inl (cB35, 78, .inl m_h.2.1)) :: bX11 a2 uq kq q_q ([(a0, .inr (9, [.int o15.1, .int o15.2.1, .int o15.2.2, .ref a2, g11, g12, g13, g14, g15, g16, g17, g18, g19, g20, g21, .ref a3, g22, .ref a4, .ref a5, .int m_h.2.2.1, .int m_h.2.2.2, g23, g24, g25, g26, g27, g28, g29, g30, g31]))])) := hD
    obtain rfl := Option.some.inj h
    have hP9 := hP.sub (ws' := ((a0, .inr (9, [.int o15.1, .int o15.2.1, .int o15.2.2, .ref a2, g11, g12, g13, g14, g15, g16, g17, g18, g19, g20, g21, .ref a3, g22, .ref a4, .ref a5, .int m_h.2.2.1, .int m_h.2.2.2, g23, g24, g25, g26, g27, g28, g29, g30, g31])) :: bX11 a2 uq kq q_q ([(a3, .inl (cB33, 26, .inl m_v)), (a4, .inl (cB34, 416, .inl m_h.1)), (a5, .inl (cB35, 78, .inl m_h.2.1))]))) [18, 3, 4, 5, 6, 7, 8, 9, 10, 11, 12, 13, 14, 15, 16, 17, 0, 1, 2] rfl
    have hD9 := hD.sub (ws' := ((a0, .inr (9, [.int o15.1, .int o15.2.1, .int o15.2.2, .ref a2, g11, g12, g13, g14, g15, g16, g17, g18, g19, g20, g21, .ref a3, g22, .ref a4, .ref a5, .int m_h.2.2.1, .int m_h.2.2.2, g23, g24, g25, g26, g27, g28, g29, g30, g31])) :: bX11 a2 uq kq q_q ([(a3, .inl (cB33, 26, .inl m_v)), (a4, .inl (cB34, 416, .inl m_h.1)), (a5, .inl (cB35, 78, .inl m_h.2.1))]))) [18, 3, 4, 5, 6, 7, 8, 9, 10, 11, 12, 13, 14, 15, 16, 17, 0, 1, 2] (by decide) rfl
    have hK9 := hK.sub (tys' := []) [] rfl
    rw [hQQ]
    exact W.zret (v := (0 : Int32)) hx hb hr rfl (fun t ht hW => ⟨⟨(0 : Int32), (), rfl, ⟨rfl, (by decide)⟩, by rw [ht]; exact hP9, va_K.moved hW.alike hK9, hD9⟩, hS.F ht⟩) hS.2.2 dX12_drawIn_18
theorem dX12_isAnswer_0 : decode cX12_isAnswer 0 = .ok (.aload_n 0, 1) := by decide +kernel
theorem dX12_isAnswer_1 : decode cX12_isAnswer 1 = .ok (.getfield 299, 3) := by decide +kernel
theorem dX12_isAnswer_11 : decode cX12_isAnswer 11 = .ok (.iload_n 1, 1) := by decide +kernel
theorem dX12_isAnswer_12 : decode cX12_isAnswer 12 = .ok (.aload_n 0, 1) := by decide +kernel
theorem dX12_isAnswer_13 : decode cX12_isAnswer 13 = .ok (.getfield 299, 3) := by decide +kernel
theorem dX12_isAnswer_16 : decode cX12_isAnswer 16 = .ok (.getfield 231, 3) := by decide +kernel
theorem dX12_isAnswer_19 : decode cX12_isAnswer 19 = .ok (.if_icmp .ge 7, 3) := by decide +kernel
theorem dX12_isAnswer_22 : decode cX12_isAnswer 22 = .ok (.iconst 1, 1) := by decide +kernel
theorem dX12_isAnswer_23 : decode cX12_isAnswer 23 = .ok (.goto 4, 3) := by decide +kernel
theorem dX12_isAnswer_26 : decode cX12_isAnswer 26 = .ok (.iconst 0, 1) := by decide +kernel
theorem dX12_isAnswer_27 : decode cX12_isAnswer 27 = .ok (.ireturn, 1) := by decide +kernel
theorem dX12_isAnswer_4 : decode cX12_isAnswer 4 = .ok (.ifnull 22, 3) := by decide +kernel
theorem dX12_isAnswer_7 : decode cX12_isAnswer 7 = .ok (.iload_n 1, 1) := by decide +kernel
theorem dX12_isAnswer_8 : decode cX12_isAnswer 8 = .ok (.ifCond .lt 18, 3) := by decide +kernel
def vfX12_isAnswer : List Cond := List.cons (.code yX12_isAnswer cX12_isAnswer 2 (some .boolean)) (apW [.fieldLink RX12 299 "HookPierModel" "pier" "LHookPierModel$Pier;"] (apW wsX120 (wsX110)))
theorem ifX12_isAnswer_X12 : ∀ w ∈ wsX120, w ∈ vfX12_isAnswer := fun _ h => (List.mem_cons_of_mem _ (List.mem_append_right _ (List.mem_append_left _ h)))
theorem ifX12_isAnswer_X11 : ∀ w ∈ wsX110, w ∈ vfX12_isAnswer := fun _ h => (List.mem_cons_of_mem _ (List.mem_append_right _ (List.mem_append_right _ h)))
theorem qfX12_isAnswer : Good vfX12_isAnswer := gd_cons (by decide +kernel) (gd_app (gd_dec (by decide +kernel) : Good [.fieldLink RX12 299 "HookPierModel" "pier" "LHookPierModel$Pier;"]) (gd_app qsX12 qsX11))
set_option maxHeartbeats 2000000 in
set_option maxRecDepth 100000 in
theorem kfX12_isAnswer (l : Launch) (dC : Nat → ClassId) (dI : Nat → Nat → Nat) (a0 : Nat) (k1 : Int32) (a2 : Nat) (uq : Nat → Nat) (kq : Nat → ClassId) (g5 : Value) (g6 : Value) (g7 : Value) (g8 : Value) (g9 : Value) (g10 : Value) (g11 : Value) (g12 : Value) (g13 : Value) (g14 : Value) (g15 : Value) (g16 : Value) (g17 : Value) (g18 : Value) (g19 : Value) (g20 : Value) (g21 : Value) (g22 : Value) (g23 : Value) (g24 : Value) (g25 : Value) (g26 : Value) (g27 : Value) (g28 : Value) (g29 : Value) (g30 : Value) (g31 : Value) (g32 : Value) (g33 : Value) (q_q : TX11_q) (sz : Nat) (out : Int32) (h : f_X12_isAnswer k1 q_q = out) : Met l yX12_isAnswer vfX12_isAnswer ({ frames := 0, cells := 0, slots := 0, locals := 0 }) (PC (dC, dI) [.ref a0, .int k1] sz ((a0, .inr (9, [g5, g6, g7, .ref a2, g8, g9, g10, g11, g12, g13, g14, g15, g16, g17, g18, g19, g20, g21, g22, g23, g24, g25, g26, g27, g28, g29, g30, g31, g32, g33])) :: bX11 a2 uq kq q_q []) (tX11 kq ([]))) (va_Qi (S := Unit) (fun (r : Int32) _ => r = out ∧ (0 ≤ r.toInt ∧ r.toInt ≤ 1)) (fun _ t => BC (dC, dI) (va_A ((a0, .inr (9, [g5, g6, g7, .ref a2, g8, g9, g10, g11, g12, g13, g14, g15, g16, g17, g18, g19, g20, g21, g22, g23, g24, g25, g26, g27, g28, g29, g30, g31, g32, g33])) :: bX11 a2 uq kq q_q []) sz) ((a0, .inr (9, [g5, g6, g7, .ref a2, g8, g9, g10, g11, g12, g13, g14, g15, g16, g17, g18, g19, g20, g21, g22, g23, g24, g25, g26, g27, g28, g29, g30, g31, g32, g33])) :: bX11 a2 uq kq q_q []) [] t) (va_A ((a0, .inr (9, [g5, g6, g7, .ref a2, g8, g9, g10, g11, g12, g13, g14, g15, g16, g17, g18, g19, g20, g21, g22, g23, g24, g25, g26, g27, g28, g29, g30, g31, g32, g33])) :: bX11 a2 uq kq q_q []) sz)) 0 0 (va_A ((a0, .inr (9, [g5, g6, g7, .ref a2, g8, g9, g10, g11, g12, g13, g14, g15, g16, g17, g18, g19, g20, g21, g22, g23, g24, g25, g26, g27, g28, g29, g30, g31, g32, g33])) :: bX11 a2 uq kq q_q []) sz) := by
  refine Met.ofW (cc := cX12_isAnswer) (maxL := 2) (ret := (some .boolean)) (by decide) rfl ?_
  intro p e s m args below meth c s₁ B0 hml hv
  obtain ⟨rfl, hsz, hP, hK, hD0, hN⟩ := hv
  have hx := B0.exec
  have hb := B0.bytes
  have hr := B0.returns
  have hts := atoms_spec (ws := vfX12_isAnswer) B0.pre
  have hown : s.vm.findClass RX12 = some m.cls := findClass_of_methodNamed B0.named
  have hlocks := B0.notSynchronized
  subst hsz
  have hD := hD0.self (sz := s.heap.size)
  generalize hAe : va_A ((a0, .inr (9, [g5, g6, g7, .ref a2, g8, g9, g10, g11, g12, g13, g14, g15, g16, g17, g18, g19, g20, g21, g22, g23, g24, g25, g26, g27, g28, g29, g30, g31, g32, g33])) :: bX11 a2 uq kq q_q []) s.heap.size = A at hD ⊢
  have hA : ∀ q : Nat, s.heap.size ≤ q → A q := fun q h => by rw [← hAe]; exact Or.inr h
  have hS : va_S A s.heap s.heap [] := va_S.rf
  have hP : va_P (dC, dI) vwCl ((a0, .inr (9, [g5, g6, g7, .ref a2, g8, g9, g10, g11, g12, g13, g14, g15, g16, g17, g18, g19, g20, g21, g22, g23, g24, g25, g26, g27, g28, g29, g30, g31, g32, g33])) :: bX11 a2 uq kq q_q []) s.heap := hP
  have hl := lv_entry ([.ref a0, .int k1]) (n := 2) (Nat.le_of_ble_eq_true rfl)
  rw [lg_entry_eq]
  generalize (lg_sl ([.ref a0, .int k1]) ++ List.replicate (2 - (lg_sl ([.ref a0, .int k1])).length) Slot.unset).toArray = ls at hl ⊢
  have hl : lv_has ls 2 [(0, .ref a0), (1, .int k1)] := hl
  refine W_q (fun QQ hQQ => ?_)
  rw [f_X12_isAnswer] at h
  refine lv_aload_n hx hb dX12_isAnswer_0 rfl (lv_at hl 0 rfl) ?_
  refine va_get (D := (dC, dI)) (ci := 9) (v := .ref a2) (C := RX12) (T := TX12) (N := 30) hx hb hts ifX12_isAnswer_X12 hown hK hP 0 rfl rfl 3 (by decide) (hts (.fieldLink RX12 299 "HookPierModel" "pier" "LHookPierModel$Pier;") (List.mem_of_getElem? (i := 1) rfl)) (fun _ h9 => h9) rfl dX12_isAnswer_1 ?_
  refine lv_ifnull hx hb dX12_isAnswer_4 ?_
  refine lv_iload_n hx hb dX12_isAnswer_7 rfl (lv_at hl 1 rfl) ?_
  refine lv_if_lt (tgt := 26) hx hb dX12_isAnswer_8 (by decide) (fun c8 => ?_) (fun c8 => ?_)
  · have h := (if_pos c8).symm.trans h
    refine lv_iconst (v := 0) hx hb dX12_isAnswer_26 (by decide) ?_
    obtain rfl := h
    have hP9 := hP.sub (ws' := ((a0, .inr (9, [g5, g6, g7, .ref a2, g8, g9, g10, g11, g12, g13, g14, g15, g16, g17, g18, g19, g20, g21, g22, g23, g24, g25, g26, g27, g28, g29, g30, g31, g32, g33])) :: bX11 a2 uq kq q_q [])) [0, 1, 2, 3, 4, 5, 6, 7, 8, 9, 10, 11, 12, 13, 14, 15] rfl
    have hD9 := hD.sub (ws' := ((a0, .inr (9, [g5, g6, g7, .ref a2, g8, g9, g10, g11, g12, g13, g14, g15, g16, g17, g18, g19, g20, g21, g22, g23, g24, g25, g26, g27, g28, g29, g30, g31, g32, g33])) :: bX11 a2 uq kq q_q [])) [0, 1, 2, 3, 4, 5, 6, 7, 8, 9, 10, 11, 12, 13, 14, 15] (by decide) rfl
    have hK9 := hK.sub (tys' := []) [] rfl
    rw [hQQ]
    exact W.zret (v := (0 : Int32)) hx hb hr rfl (fun t ht hW => ⟨⟨(0 : Int32), (), rfl, ⟨rfl, (by decide)⟩, by rw [ht]; exact hP9, va_K.moved hW.alike hK9, hD9⟩, hS.F ht⟩) hS.2.2 dX12_isAnswer_27
  · have h := (if_neg c8).symm.trans h
    refine lv_iload_n hx hb dX12_isAnswer_11 rfl (lv_at hl 1 rfl) ?_
    refine lv_aload_n hx hb dX12_isAnswer_12 rfl (lv_at hl 0 rfl) ?_
    refine va_get (D := (dC, dI)) (ci := 9) (v := .ref a2) (C := RX12) (T := TX12) (N := 30) hx hb hts ifX12_isAnswer_X12 hown hK hP 0 rfl rfl 3 (by decide) (hts (.fieldLink RX12 299 "HookPierModel" "pier" "LHookPierModel$Pier;") (List.mem_of_getElem? (i := 1) rfl)) (fun _ h9 => h9) rfl dX12_isAnswer_13 ?_
    refine va_getN (D := (dC, dI)) (ci := 8) (v := .int q_q.2.2.2.2.2.2.1) (C := RX11) (T := TX11) (N := 24) hx hb hts ifX12_isAnswer_X11 hown hK hP 1 rfl rfl 6 (by decide) (va_Nw.use rfl (hN.1 (.fieldLinkNest RX12 231 "HookPierModel$Pier" "answers" "I" "HookPierModel") (List.mem_of_getElem? (i := 28) rfl))) (fun _ h9 => h9) rfl dX12_isAnswer_16 ?_
    refine lv_icmp_ge (tgt := 26) hx hb dX12_isAnswer_19 (by decide) (fun c19 => ?_) (fun c19 => ?_)
    · have h := (if_pos c19).symm.trans h
      refine lv_iconst (v := 0) hx hb dX12_isAnswer_26 (by decide) ?_
      obtain rfl := h
      have hP9 := hP.sub (ws' := ((a0, .inr (9, [g5, g6, g7, .ref a2, g8, g9, g10, g11, g12, g13, g14, g15, g16, g17, g18, g19, g20, g21, g22, g23, g24, g25, g26, g27, g28, g29, g30, g31, g32, g33])) :: bX11 a2 uq kq q_q [])) [0, 1, 2, 3, 4, 5, 6, 7, 8, 9, 10, 11, 12, 13, 14, 15] rfl
      have hD9 := hD.sub (ws' := ((a0, .inr (9, [g5, g6, g7, .ref a2, g8, g9, g10, g11, g12, g13, g14, g15, g16, g17, g18, g19, g20, g21, g22, g23, g24, g25, g26, g27, g28, g29, g30, g31, g32, g33])) :: bX11 a2 uq kq q_q [])) [0, 1, 2, 3, 4, 5, 6, 7, 8, 9, 10, 11, 12, 13, 14, 15] (by decide) rfl
      have hK9 := hK.sub (tys' := []) [] rfl
      rw [hQQ]
      exact W.zret (v := (0 : Int32)) hx hb hr rfl (fun t ht hW => ⟨⟨(0 : Int32), (), rfl, ⟨rfl, (by decide)⟩, by rw [ht]; exact hP9, va_K.moved hW.alike hK9, hD9⟩, hS.F ht⟩) hS.2.2 dX12_isAnswer_27
    · have h := (if_neg c19).symm.trans h
      refine lv_iconst (v := 1) hx hb dX12_isAnswer_22 (by decide) ?_
      refine lv_goto (tgt := 27) hx hb dX12_isAnswer_23 (by decide) ?_
      obtain rfl := h
      have hP9 := hP.sub (ws' := ((a0, .inr (9, [g5, g6, g7, .ref a2, g8, g9, g10, g11, g12, g13, g14, g15, g16, g17, g18, g19, g20, g21, g22, g23, g24, g25, g26, g27, g28, g29, g30, g31, g32, g33])) :: bX11 a2 uq kq q_q [])) [0, 1, 2, 3, 4, 5, 6, 7, 8, 9, 10, 11, 12, 13, 14, 15] rfl
      have hD9 := hD.sub (ws' := ((a0, .inr (9, [g5, g6, g7, .ref a2, g8, g9, g10, g11, g12, g13, g14, g15, g16, g17, g18, g19, g20, g21, g22, g23, g24, g25, g26, g27, g28, g29, g30, g31, g32, g33])) :: bX11 a2 uq kq q_q [])) [0, 1, 2, 3, 4, 5, 6, 7, 8, 9, 10, 11, 12, 13, 14, 15] (by decide) rfl
      have hK9 := hK.sub (tys' := []) [] rfl
      rw [hQQ]
      exact W.zret (v := (1 : Int32)) hx hb hr rfl (fun t ht hW => ⟨⟨(1 : Int32), (), rfl, ⟨rfl, (by decide)⟩, by rw [ht]; exact hP9, va_K.moved hW.alike hK9, hD9⟩, hS.F ht⟩) hS.2.2 dX12_isAnswer_27
theorem dX12_keeps_0 : decode cX12_keeps 0 = .ok (.iload_n 3, 1) := by decide +kernel
theorem dX12_keeps_1 : decode cX12_keeps 1 = .ok (.iload_n 2, 1) := by decide +kernel
theorem dX12_keeps_101 : decode cX12_keeps 101 = .ok (.aload_n 0, 1) := by decide +kernel
theorem dX12_keeps_102 : decode cX12_keeps 102 = .ok (.getfield 299, 3) := by decide +kernel
theorem dX12_keeps_105 : decode cX12_keeps 105 = .ok (.getfield 267, 3) := by decide +kernel
theorem dX12_keeps_108 : decode cX12_keeps 108 = .ok (.iload_n 1, 1) := by decide +kernel
theorem dX12_keeps_109 : decode cX12_keeps 109 = .ok (.iaload, 1) := by decide +kernel
theorem dX12_keeps_110 : decode cX12_keeps 110 = .ok (.iconst 5, 1) := by decide +kernel
theorem dX12_keeps_111 : decode cX12_keeps 111 = .ok (.iload 4, 2) := by decide +kernel
theorem dX12_keeps_113 : decode cX12_keeps 113 = .ok (.imul, 1) := by decide +kernel
theorem dX12_keeps_114 : decode cX12_keeps 114 = .ok (.isub, 1) := by decide +kernel
theorem dX12_keeps_115 : decode cX12_keeps 115 = .ok (.goto 4, 3) := by decide +kernel
theorem dX12_keeps_118 : decode cX12_keeps 118 = .ok (.iconst 0, 1) := by decide +kernel
theorem dX12_keeps_119 : decode cX12_keeps 119 = .ok (.ireturn, 1) := by decide +kernel
theorem dX12_keeps_12 : decode cX12_keeps 12 = .ok (.iload_n 1, 1) := by decide +kernel
theorem dX12_keeps_13 : decode cX12_keeps 13 = .ok (.iaload, 1) := by decide +kernel
theorem dX12_keeps_14 : decode cX12_keeps 14 = .ok (.lookupswitch 71 #[(1, 26), (3, 36)], 26) := by decide +kernel
theorem dX12_keeps_2 : decode cX12_keeps 2 = .ok (.isub, 1) := by decide +kernel
theorem dX12_keeps_3 : decode cX12_keeps 3 = .ok (.istore 4, 2) := by decide +kernel
theorem dX12_keeps_40 : decode cX12_keeps 40 = .ok (.aload_n 0, 1) := by decide +kernel
theorem dX12_keeps_41 : decode cX12_keeps 41 = .ok (.getfield 299, 3) := by decide +kernel
theorem dX12_keeps_44 : decode cX12_keeps 44 = .ok (.getfield 267, 3) := by decide +kernel
theorem dX12_keeps_47 : decode cX12_keeps 47 = .ok (.iload_n 1, 1) := by decide +kernel
theorem dX12_keeps_48 : decode cX12_keeps 48 = .ok (.iaload, 1) := by decide +kernel
theorem dX12_keeps_49 : decode cX12_keeps 49 = .ok (.ireturn, 1) := by decide +kernel
theorem dX12_keeps_5 : decode cX12_keeps 5 = .ok (.aload_n 0, 1) := by decide +kernel
theorem dX12_keeps_50 : decode cX12_keeps 50 = .ok (.aload_n 0, 1) := by decide +kernel
theorem dX12_keeps_51 : decode cX12_keeps 51 = .ok (.getfield 299, 3) := by decide +kernel
theorem dX12_keeps_54 : decode cX12_keeps 54 = .ok (.getfield 267, 3) := by decide +kernel
theorem dX12_keeps_57 : decode cX12_keeps 57 = .ok (.iload_n 1, 1) := by decide +kernel
theorem dX12_keeps_58 : decode cX12_keeps 58 = .ok (.iaload, 1) := by decide +kernel
theorem dX12_keeps_59 : decode cX12_keeps 59 = .ok (.iload 4, 2) := by decide +kernel
theorem dX12_keeps_6 : decode cX12_keeps 6 = .ok (.getfield 299, 3) := by decide +kernel
theorem dX12_keeps_61 : decode cX12_keeps 61 = .ok (.iadd, 1) := by decide +kernel
theorem dX12_keeps_62 : decode cX12_keeps 62 = .ok (.bipush 99, 2) := by decide +kernel
theorem dX12_keeps_64 : decode cX12_keeps 64 = .ok (.if_icmp .ge 18, 3) := by decide +kernel
theorem dX12_keeps_67 : decode cX12_keeps 67 = .ok (.aload_n 0, 1) := by decide +kernel
theorem dX12_keeps_68 : decode cX12_keeps 68 = .ok (.getfield 299, 3) := by decide +kernel
theorem dX12_keeps_71 : decode cX12_keeps 71 = .ok (.getfield 267, 3) := by decide +kernel
theorem dX12_keeps_74 : decode cX12_keeps 74 = .ok (.iload_n 1, 1) := by decide +kernel
theorem dX12_keeps_75 : decode cX12_keeps 75 = .ok (.iaload, 1) := by decide +kernel
theorem dX12_keeps_76 : decode cX12_keeps 76 = .ok (.iload 4, 2) := by decide +kernel
theorem dX12_keeps_78 : decode cX12_keeps 78 = .ok (.iadd, 1) := by decide +kernel
theorem dX12_keeps_79 : decode cX12_keeps 79 = .ok (.goto 5, 3) := by decide +kernel
theorem dX12_keeps_82 : decode cX12_keeps 82 = .ok (.bipush 99, 2) := by decide +kernel
theorem dX12_keeps_84 : decode cX12_keeps 84 = .ok (.ireturn, 1) := by decide +kernel
theorem dX12_keeps_85 : decode cX12_keeps 85 = .ok (.aload_n 0, 1) := by decide +kernel
theorem dX12_keeps_86 : decode cX12_keeps 86 = .ok (.getfield 299, 3) := by decide +kernel
theorem dX12_keeps_89 : decode cX12_keeps 89 = .ok (.getfield 267, 3) := by decide +kernel
theorem dX12_keeps_9 : decode cX12_keeps 9 = .ok (.getfield 256, 3) := by decide +kernel
theorem dX12_keeps_92 : decode cX12_keeps 92 = .ok (.iload_n 1, 1) := by decide +kernel
theorem dX12_keeps_93 : decode cX12_keeps 93 = .ok (.iaload, 1) := by decide +kernel
theorem dX12_keeps_94 : decode cX12_keeps 94 = .ok (.iconst 5, 1) := by decide +kernel
theorem dX12_keeps_95 : decode cX12_keeps 95 = .ok (.iload 4, 2) := by decide +kernel
theorem dX12_keeps_97 : decode cX12_keeps 97 = .ok (.imul, 1) := by decide +kernel
theorem dX12_keeps_98 : decode cX12_keeps 98 = .ok (.if_icmp .le 20, 3) := by decide +kernel
def vfX12_keeps : List Cond := List.cons (.code yX12_keeps cX12_keeps 5 (some .int)) (apW [.fieldLink RX12 299 "HookPierModel" "pier" "LHookPierModel$Pier;"] (apW wsX120 (wsX110)))
theorem ifX12_keeps_X12 : ∀ w ∈ wsX120, w ∈ vfX12_keeps := fun _ h => (List.mem_cons_of_mem _ (List.mem_append_right _ (List.mem_append_left _ h)))
theorem ifX12_keeps_X11 : ∀ w ∈ wsX110, w ∈ vfX12_keeps := fun _ h => (List.mem_cons_of_mem _ (List.mem_append_right _ (List.mem_append_right _ h)))
theorem qfX12_keeps : Good vfX12_keeps := gd_cons (by decide +kernel) (gd_app (gd_dec (by decide +kernel) : Good [.fieldLink RX12 299 "HookPierModel" "pier" "LHookPierModel$Pier;"]) (gd_app qsX12 qsX11))
set_option maxHeartbeats 2000000 in
set_option maxRecDepth 100000 in
theorem kfX12_keeps (l : Launch) (dC : Nat → ClassId) (dI : Nat → Nat → Nat) (a0 : Nat) (k1 : Int32) (k2 : Int32) (k3 : Int32) (a4 : Nat) (uq : Nat → Nat) (kq : Nat → ClassId) (g7 : Value) (g8 : Value) (g9 : Value) (g10 : Value) (g11 : Value) (g12 : Value) (g13 : Value) (g14 : Value) (g15 : Value) (g16 : Value) (g17 : Value) (g18 : Value) (g19 : Value) (g20 : Value) (g21 : Value) (g22 : Value) (g23 : Value) (g24 : Value) (g25 : Value) (g26 : Value) (g27 : Value) (g28 : Value) (g29 : Value) (g30 : Value) (g31 : Value) (g32 : Value) (g33 : Value) (g34 : Value) (g35 : Value) (q_q : TX11_q) (sz : Nat) (out : Int32) (h : f_X12_keeps k1 k2 k3 q_q = some out) : Met l yX12_keeps vfX12_keeps ({ frames := 0, cells := 0, slots := 0, locals := 0 }) (PC (dC, dI) [.ref a0, .int k1, .int k2, .int k3] sz ((a0, .inr (9, [g7, g8, g9, .ref a4, g10, g11, g12, g13, g14, g15, g16, g17, g18, g19, g20, g21, g22, g23, g24, g25, g26, g27, g28, g29, g30, g31, g32, g33, g34, g35])) :: bX11 a4 uq kq q_q []) (tX11 kq ([]))) (va_Qi (S := Unit) (fun (r : Int32) _ => r = out) (fun _ t => BC (dC, dI) (va_A ((a0, .inr (9, [g7, g8, g9, .ref a4, g10, g11, g12, g13, g14, g15, g16, g17, g18, g19, g20, g21, g22, g23, g24, g25, g26, g27, g28, g29, g30, g31, g32, g33, g34, g35])) :: bX11 a4 uq kq q_q []) sz) ((a0, .inr (9, [g7, g8, g9, .ref a4, g10, g11, g12, g13, g14, g15, g16, g17, g18, g19, g20, g21, g22, g23, g24, g25, g26, g27, g28, g29, g30, g31, g32, g33, g34, g35])) :: bX11 a4 uq kq q_q []) [] t) (va_A ((a0, .inr (9, [g7, g8, g9, .ref a4, g10, g11, g12, g13, g14, g15, g16, g17, g18, g19, g20, g21, g22, g23, g24, g25, g26, g27, g28, g29, g30, g31, g32, g33, g34, g35])) :: bX11 a4 uq kq q_q []) sz)) 0 0 (va_A ((a0, .inr (9, [g7, g8, g9, .ref a4, g10, g11, g12, g13, g14, g15, g16, g17, g18, g19, g20, g21, g22, g23, g24, g25, g26, g27, g28, g29, g30, g31, g32, g33, g34, g35])) :: bX11 a4 uq kq q_q []) sz) := by
  refine Met.ofW (cc := cX12_keeps) (maxL := 5) (ret := (some .int)) (by decide) rfl ?_
  intro p e s m args below meth c s₁ B0 hml hv
  obtain ⟨rfl, hsz, hP, hK, hD0, hN⟩ := hv
  have hx := B0.exec
  have hb := B0.bytes
  have hr := B0.returns
  have hts := atoms_spec (ws := vfX12_keeps) B0.pre
  have hown : s.vm.findClass RX12 = some m.cls := findClass_of_methodNamed B0.named
  have hlocks := B0.notSynchronized
  subst hsz
  have hD := hD0.self (sz := s.heap.size)
  generalize hAe : va_A ((a0, .inr (9, [g7, g8, g9, .ref a4, g10, g11, g12, g13, g14, g15, g16, g17, g18, g19, g20, g21, g22, g23, g24, g25, g26, g27, g28, g29, g30, g31, g32, g33, g34, g35])) :: bX11 a4 uq kq q_q []) s.heap.size = A at hD ⊢
  have hA : ∀ q : Nat, s.heap.size ≤ q → A q := fun q h => by rw [← hAe]; exact Or.inr h
  have hS : va_S A s.heap s.heap [] := va_S.rf
  have hP : va_P (dC, dI) vwCl ((a0, .inr (9, [g7, g8, g9, .ref a4, g10, g11, g12, g13, g14, g15, g16, g17, g18, g19, g20, g21, g22, g23, g24, g25, g26, g27, g28, g29, g30, g31, g32, g33, g34, g35])) :: bX11 a4 uq kq q_q []) s.heap := hP
  have hl := lv_entry ([.ref a0, .int k1, .int k2, .int k3]) (n := 5) (Nat.le_of_ble_eq_true rfl)
  rw [lg_entry_eq]
  generalize (lg_sl ([.ref a0, .int k1, .int k2, .int k3]) ++ List.replicate (5 - (lg_sl ([.ref a0, .int k1, .int k2, .int k3])).length) Slot.unset).toArray = ls at hl ⊢
  have hl : lv_has ls 5 [(0, .ref a0), (1, .int k1), (2, .int k2), (3, .int k3)] := hl
  refine W_q (fun QQ hQQ => ?_)
  rw [f_X12_keeps] at h
  refine lv_iload_n hx hb dX12_keeps_0 rfl (lv_at hl 3 rfl) ?_
  refine lv_iload_n hx hb dX12_keeps_1 rfl (lv_at hl 2 rfl) ?_
  refine lv_isub hx hb dX12_keeps_2 ?_
  refine lv_istore (lv' := [(4, .int (k3 - k2)), (0, .ref a0), (1, .int k1), (2, .int k2), (3, .int k3)]) hx hb dX12_keeps_3 hl (by decide) rfl (fun ls hl => ?_)
  refine lv_aload_n hx hb dX12_keeps_5 rfl (lv_at hl 1 rfl) ?_
  refine va_get (D := (dC, dI)) (ci := 9) (v := .ref a4) (C := RX12) (T := TX12) (N := 30) hx hb hts ifX12_keeps_X12 hown hK hP 0 rfl rfl 3 (by decide) (hts (.fieldLink RX12 299 "HookPierModel" "pier" "LHookPierModel$Pier;") (List.mem_of_getElem? (i := 1) rfl)) (fun _ h9 => h9) rfl dX12_keeps_6 ?_
  refine va_getN (D := (dC, dI)) (ci := 8) (v := .ref (uq 1)) (C := RX11) (T := TX11) (N := 24) hx hb hts ifX12_keeps_X11 hown hK hP 1 rfl rfl 11 (by decide) (va_Nw.use rfl (hN.1 (.fieldLinkNest RX12 256 "HookPierModel$Pier" "kind" "[I" "HookPierModel") (List.mem_of_getElem? (i := 33) rfl))) (fun _ h9 => h9) rfl dX12_keeps_9 ?_
  refine lv_iload_n hx hb dX12_keeps_12 rfl (lv_at hl 2 rfl) ?_
  obtain ⟨hg13, h⟩ := gA_of h
  refine va_iald hx hb hK hP 3 1 rfl rfl hg13 dX12_keeps_13 ?_
  by_cases c14_0 : (q_q.2.2.2.2.2.2.2.2.2.2.2.1 (k1).toNatClampNeg) = 1
  · have h := (if_pos c14_0).symm.trans h
    refine lv_lookup (tgt := 40) hx hb dX12_keeps_14 (by decide) (by rw [c14_0] <;> rfl) (by decide) ?_
    refine lv_aload_n hx hb dX12_keeps_40 rfl (lv_at hl 1 rfl) ?_
    refine va_get (D := (dC, dI)) (ci := 9) (v := .ref a4) (C := RX12) (T := TX12) (N := 30) hx hb hts ifX12_keeps_X12 hown hK hP 0 rfl rfl 3 (by decide) (hts (.fieldLink RX12 299 "HookPierModel" "pier" "LHookPierModel$Pier;") (List.mem_of_getElem? (i := 1) rfl)) (fun _ h9 => h9) rfl dX12_keeps_41 ?_
    refine va_getN (D := (dC, dI)) (ci := 8) (v := .ref (uq 6)) (C := RX11) (T := TX11) (N := 24) hx hb hts ifX12_keeps_X11 hown hK hP 1 rfl rfl 16 (by decide) (va_Nw.use rfl (hN.1 (.fieldLinkNest RX12 267 "HookPierModel$Pier" "worth" "[I" "HookPierModel") (List.mem_of_getElem? (i := 38) rfl))) (fun _ h9 => h9) rfl dX12_keeps_44 ?_
    refine lv_iload_n hx hb dX12_keeps_47 rfl (lv_at hl 2 rfl) ?_
    obtain ⟨hg48, h⟩ := gA_of h
    refine va_iald hx hb hK hP 8 6 rfl rfl hg48 dX12_keeps_48 ?_
    obtain rfl := Option.some.inj h
    have hP9 := hP.sub (ws' := ((a0, .inr (9, [g7, g8, g9, .ref a4, g10, g11, g12, g13, g14, g15, g16, g17, g18, g19, g20, g21, g22, g23, g24, g25, g26, g27, g28, g29, g30, g31, g32, g33, g34, g35])) :: bX11 a4 uq kq q_q [])) [0, 1, 2, 3, 4, 5, 6, 7, 8, 9, 10, 11, 12, 13, 14, 15] rfl
    have hD9 := hD.sub (ws' := ((a0, .inr (9, [g7, g8, g9, .ref a4, g10, g11, g12, g13, g14, g15, g16, g17, g18, g19, g20, g21, g22, g23, g24, g25, g26, g27, g28, g29, g30, g31, g32, g33, g34, g35])) :: bX11 a4 uq kq q_q [])) [0, 1, 2, 3, 4, 5, 6, 7, 8, 9, 10, 11, 12, 13, 14, 15] (by decide) rfl
    have hK9 := hK.sub (tys' := []) [] rfl
    rw [hQQ]
    exact W.iret (v := (q_q.2.2.2.2.2.2.2.2.2.2.2.2.2.2.2.2.1 (k1).toNatClampNeg)) hx hb hr (fun t ht hW => ⟨⟨(q_q.2.2.2.2.2.2.2.2.2.2.2.2.2.2.2.2.1 (k1).toNatClampNeg), (), rfl, rfl, by rw [ht]; exact hP9, va_K.moved hW.alike hK9, hD9⟩, hS.F ht⟩) hS.2.2 dX12_keeps_49
  have h := (if_neg c14_0).symm.trans h
  by_cases c14_1 : (q_q.2.2.2.2.2.2.2.2.2.2.2.1 (k1).toNatClampNeg) = 3
  · have h := (if_pos c14_1).symm.trans h
    refine lv_lookup (tgt := 50) hx hb dX12_keeps_14 (by decide) (by rw [c14_1] <;> rfl) (by decide) ?_
    refine lv_aload_n hx hb dX12_keeps_50 rfl (lv_at hl 1 rfl) ?_
    refine va_get (D := (dC, dI)) (ci := 9) (v := .ref a4) (C := RX12) (T := TX12) (N := 30) hx hb hts ifX12_keeps_X12 hown hK hP 0 rfl rfl 3 (by decide) (hts (.fieldLink RX12 299 "HookPierModel" "pier" "LHookPierModel$Pier;") (List.mem_of_getElem? (i := 1) rfl)) (fun _ h9 => h9) rfl dX12_keeps_51 ?_
    refine va_getN (D := (dC, dI)) (ci := 8) (v := .ref (uq 6)) (C := RX11) (T := TX11) (N := 24) hx hb hts ifX12_keeps_X11 hown hK hP 1 rfl rfl 16 (by decide) (va_Nw.use rfl (hN.1 (.fieldLinkNest RX12 267 "HookPierModel$Pier" "worth" "[I" "HookPierModel") (List.mem_of_getElem? (i := 38) rfl))) (fun _ h9 => h9) rfl dX12_keeps_54 ?_
    refine lv_iload_n hx hb dX12_keeps_57 rfl (lv_at hl 2 rfl) ?_
    obtain ⟨hg58, h⟩ := gA_of h
    refine va_iald hx hb hK hP 8 6 rfl rfl hg58 dX12_keeps_58 ?_
    refine lv_iload hx hb dX12_keeps_59 (lv_at hl 0 rfl) ?_
    refine lv_iadd hx hb dX12_keeps_61 ?_
    refine lv_topi (fun z61 ez61 => ?_)
    have h := nm_of h z61 ez61
    refine lv_bipush (v := 99) hx hb dX12_keeps_62 (by decide) ?_
    refine lv_icmp_ge (tgt := 82) hx hb dX12_keeps_64 (by decide) (fun c64 => ?_) (fun c64 => ?_)
    · have h := (if_pos c64).symm.trans h
      refine lv_bipush (v := 99) hx hb dX12_keeps_82 (by decide) ?_
      obtain rfl := Option.some.inj h
      have hP9 := hP.sub (ws' := ((a0, .inr (9, [g7, g8, g9, .ref a4, g10, g11, g12, g13, g14, g15, g16, g17, g18, g19, g20, g21, g22, g23, g24, g25, g26, g27, g28, g29, g30, g31, g32, g33, g34, g35])) :: bX11 a4 uq kq q_q [])) [0, 1, 2, 3, 4, 5, 6, 7, 8, 9, 10, 11, 12, 13, 14, 15] rfl
      have hD9 := hD.sub (ws' := ((a0, .inr (9, [g7, g8, g9, .ref a4, g10, g11, g12, g13, g14, g15, g16, g17, g18, g19, g20, g21, g22, g23, g24, g25, g26, g27, g28, g29, g30, g31, g32, g33, g34, g35])) :: bX11 a4 uq kq q_q [])) [0, 1, 2, 3, 4, 5, 6, 7, 8, 9, 10, 11, 12, 13, 14, 15] (by decide) rfl
      have hK9 := hK.sub (tys' := []) [] rfl
      rw [hQQ]
      exact W.iret (v := (99 : Int32)) hx hb hr (fun t ht hW => ⟨⟨(99 : Int32), (), rfl, rfl, by rw [ht]; exact hP9, va_K.moved hW.alike hK9, hD9⟩, hS.F ht⟩) hS.2.2 dX12_keeps_84
    · have h := (if_neg c64).symm.trans h
      refine lv_aload_n hx hb dX12_keeps_67 rfl (lv_at hl 1 rfl) ?_
      refine va_get (D := (dC, dI)) (ci := 9) (v := .ref a4) (C := RX12) (T := TX12) (N := 30) hx hb hts ifX12_keeps_X12 hown hK hP 0 rfl rfl 3 (by decide) (hts (.fieldLink RX12 299 "HookPierModel" "pier" "LHookPierModel$Pier;") (List.mem_of_getElem? (i := 1) rfl)) (fun _ h9 => h9) rfl dX12_keeps_68 ?_
      refine va_getN (D := (dC, dI)) (ci := 8) (v := .ref (uq 6)) (C := RX11) (T := TX11) (N := 24) hx hb hts ifX12_keeps_X11 hown hK hP 1 rfl rfl 16 (by decide) (va_Nw.use rfl (hN.1 (.fieldLinkNest RX12 267 "HookPierModel$Pier" "worth" "[I" "HookPierModel") (List.mem_of_getElem? (i := 38) rfl))) (fun _ h9 => h9) rfl dX12_keeps_71 ?_
      refine lv_iload_n hx hb dX12_keeps_74 rfl (lv_at hl 2 rfl) ?_
      obtain ⟨hg75, h⟩ := gA_of h
      refine va_iald hx hb hK hP 8 6 rfl rfl hg75 dX12_keeps_75 ?_
      refine lv_iload hx hb dX12_keeps_76 (lv_at hl 0 rfl) ?_
      refine lv_iadd hx hb dX12_keeps_78 ?_
      refine lv_topi (fun z78 ez78 => ?_)
      have h := nm_of h z78 ez78
      refine lv_goto (tgt := 84) hx hb dX12_keeps_79 (by decide) ?_
      obtain rfl := Option.some.inj h
      have hP9 := hP.sub (ws' := ((a0, .inr (9, [g7, g8, g9, .ref a4, g10, g11, g12, g13, g14, g15, g16, g17, g18, g19, g20, g21, g22, g23, g24, g25, g26, g27, g28, g29, g30, g31, g32, g33, g34, g35])) :: bX11 a4 uq kq q_q [])) [0, 1, 2, 3, 4, 5, 6, 7, 8, 9, 10, 11, 12, 13, 14, 15] rfl
      have hD9 := hD.sub (ws' := ((a0, .inr (9, [g7, g8, g9, .ref a4, g10, g11, g12, g13, g14, g15, g16, g17, g18, g19, g20, g21, g22, g23, g24, g25, g26, g27, g28, g29, g30, g31, g32, g33, g34, g35])) :: bX11 a4 uq kq q_q [])) [0, 1, 2, 3, 4, 5, 6, 7, 8, 9, 10, 11, 12, 13, 14, 15] (by decide) rfl
      have hK9 := hK.sub (tys' := []) [] rfl
      rw [hQQ]
      exact W.iret (v := z78) hx hb hr (fun t ht hW => ⟨⟨z78, (), rfl, rfl, by rw [ht]; exact hP9, va_K.moved hW.alike hK9, hD9⟩, hS.F ht⟩) hS.2.2 dX12_keeps_84
  have h := (if_neg c14_1).symm.trans h
  refine lv_lookup (tgt := 85) (off := 71) hx hb dX12_keeps_14 (by decide) (by rw [show ∀ (z9 : Array (Int × Int)), z9.toList = z9.toList from fun _ => rfl]; show Op.lookupswitch.offset [(1, 26), (3, 36)] 71 ((q_q.2.2.2.2.2.2.2.2.2.2.2.1 (k1).toNatClampNeg)).toInt = 71; rw [lv_osw (k := 1) c14_0 (by decide), lv_osw (k := 3) c14_1 (by decide)]; rfl) (by decide) ?_
  refine lv_aload_n hx hb dX12_keeps_85 rfl (lv_at hl 1 rfl) ?_
  refine va_get (D := (dC, dI)) (ci := 9) (v := .ref a4) (C := RX12) (T := TX12) (N := 30) hx hb hts ifX12_keeps_X12 hown hK hP 0 rfl rfl 3 (by decide) (hts (.fieldLink RX12 299 "HookPierModel" "pier" "LHookPierModel$Pier;") (List.mem_of_getElem? (i := 1) rfl)) (fun _ h9 => h9) rfl dX12_keeps_86 ?_
  refine va_getN (D := (dC, dI)) (ci := 8) (v := .ref (uq 6)) (C := RX11) (T := TX11) (N := 24) hx hb hts ifX12_keeps_X11 hown hK hP 1 rfl rfl 16 (by decide) (va_Nw.use rfl (hN.1 (.fieldLinkNest RX12 267 "HookPierModel$Pier" "worth" "[I" "HookPierModel") (List.mem_of_getElem? (i := 38) rfl))) (fun _ h9 => h9) rfl dX12_keeps_89 ?_
  refine lv_iload_n hx hb dX12_keeps_92 rfl (lv_at hl 2 rfl) ?_
  obtain ⟨hg93, h⟩ := gA_of h
  refine va_iald hx hb hK hP 8 6 rfl rfl hg93 dX12_keeps_93 ?_
  refine lv_iconst (v := 5) hx hb dX12_keeps_94 (by decide) ?_
  refine lv_iload hx hb dX12_keeps_95 (lv_at hl 0 rfl) ?_
  refine lv_imul hx hb dX12_keeps_97 ?_
  refine lv_icmp_le (tgt := 118) hx hb dX12_keeps_98 (by decide) (fun c98 => ?_) (fun c98 => ?_)
  · have h := (if_pos c98).symm.trans h
    refine lv_iconst (v := 0) hx hb dX12_keeps_118 (by decide) ?_
    obtain rfl := Option.some.inj h
    have hP9 := hP.sub (ws' := ((a0, .inr (9, [g7, g8, g9, .ref a4, g10, g11, g12, g13, g14, g15, g16, g17, g18, g19, g20, g21, g22, g23, g24, g25, g26, g27, g28, g29, g30, g31, g32, g33, g34, g35])) :: bX11 a4 uq kq q_q [])) [0, 1, 2, 3, 4, 5, 6, 7, 8, 9, 10, 11, 12, 13, 14, 15] rfl
    have hD9 := hD.sub (ws' := ((a0, .inr (9, [g7, g8, g9, .ref a4, g10, g11, g12, g13, g14, g15, g16, g17, g18, g19, g20, g21, g22, g23, g24, g25, g26, g27, g28, g29, g30, g31, g32, g33, g34, g35])) :: bX11 a4 uq kq q_q [])) [0, 1, 2, 3, 4, 5, 6, 7, 8, 9, 10, 11, 12, 13, 14, 15] (by decide) rfl
    have hK9 := hK.sub (tys' := []) [] rfl
    rw [hQQ]
    exact W.iret (v := (0 : Int32)) hx hb hr (fun t ht hW => ⟨⟨(0 : Int32), (), rfl, rfl, by rw [ht]; exact hP9, va_K.moved hW.alike hK9, hD9⟩, hS.F ht⟩) hS.2.2 dX12_keeps_119
  · have h := (if_neg c98).symm.trans h
    refine lv_aload_n hx hb dX12_keeps_101 rfl (lv_at hl 1 rfl) ?_
    refine va_get (D := (dC, dI)) (ci := 9) (v := .ref a4) (C := RX12) (T := TX12) (N := 30) hx hb hts ifX12_keeps_X12 hown hK hP 0 rfl rfl 3 (by decide) (hts (.fieldLink RX12 299 "HookPierModel" "pier" "LHookPierModel$Pier;") (List.mem_of_getElem? (i := 1) rfl)) (fun _ h9 => h9) rfl dX12_keeps_102 ?_
    refine va_getN (D := (dC, dI)) (ci := 8) (v := .ref (uq 6)) (C := RX11) (T := TX11) (N := 24) hx hb hts ifX12_keeps_X11 hown hK hP 1 rfl rfl 16 (by decide) (va_Nw.use rfl (hN.1 (.fieldLinkNest RX12 267 "HookPierModel$Pier" "worth" "[I" "HookPierModel") (List.mem_of_getElem? (i := 38) rfl))) (fun _ h9 => h9) rfl dX12_keeps_105 ?_
    refine lv_iload_n hx hb dX12_keeps_108 rfl (lv_at hl 2 rfl) ?_
    obtain ⟨hg109, h⟩ := gA_of h
    refine va_iald hx hb hK hP 8 6 rfl rfl hg109 dX12_keeps_109 ?_
    refine lv_iconst (v := 5) hx hb dX12_keeps_110 (by decide) ?_
    refine lv_iload hx hb dX12_keeps_111 (lv_at hl 0 rfl) ?_
    refine lv_imul hx hb dX12_keeps_113 ?_
    refine lv_isub hx hb dX12_keeps_114 ?_
    refine lv_topi (fun z114 ez114 => ?_)
    have h := nm_of h z114 ez114
    refine lv_goto (tgt := 119) hx hb dX12_keeps_115 (by decide) ?_
    obtain rfl := Option.some.inj h
    have hP9 := hP.sub (ws' := ((a0, .inr (9, [g7, g8, g9, .ref a4, g10, g11, g12, g13, g14, g15, g16, g17, g18, g19, g20, g21, g22, g23, g24, g25, g26, g27, g28, g29, g30, g31, g32, g33, g34, g35])) :: bX11 a4 uq kq q_q [])) [0, 1, 2, 3, 4, 5, 6, 7, 8, 9, 10, 11, 12, 13, 14, 15] rfl
    have hD9 := hD.sub (ws' := ((a0, .inr (9, [g7, g8, g9, .ref a4, g10, g11, g12, g13, g14, g15, g16, g17, g18, g19, g20, g21, g22, g23, g24, g25, g26, g27, g28, g29, g30, g31, g32, g33, g34, g35])) :: bX11 a4 uq kq q_q [])) [0, 1, 2, 3, 4, 5, 6, 7, 8, 9, 10, 11, 12, 13, 14, 15] (by decide) rfl
    have hK9 := hK.sub (tys' := []) [] rfl
    rw [hQQ]
    exact W.iret (v := z114) hx hb hr (fun t ht hW => ⟨⟨z114, (), rfl, rfl, by rw [ht]; exact hP9, va_K.moved hW.alike hK9, hD9⟩, hS.F ht⟩) hS.2.2 dX12_keeps_119
theorem dX12_worthNow_0 : decode cX12_worthNow 0 = .ok (.aload_n 0, 1) := by decide +kernel
theorem dX12_worthNow_1 : decode cX12_worthNow 1 = .ok (.iload_n 1, 1) := by decide +kernel
theorem dX12_worthNow_10 : decode cX12_worthNow 10 = .ok (.iaload, 1) := by decide +kernel
theorem dX12_worthNow_11 : decode cX12_worthNow 11 = .ok (.aload_n 0, 1) := by decide +kernel
theorem dX12_worthNow_12 : decode cX12_worthNow 12 = .ok (.getfield 17, 3) := by decide +kernel
theorem dX12_worthNow_15 : decode cX12_worthNow 15 = .ok (.bipush 23, 2) := by decide +kernel
theorem dX12_worthNow_17 : decode cX12_worthNow 17 = .ok (.iaload, 1) := by decide +kernel
theorem dX12_worthNow_18 : decode cX12_worthNow 18 = .ok (.invokevirtual 323, 3) := by decide +kernel
theorem dX12_worthNow_2 : decode cX12_worthNow 2 = .ok (.aload_n 0, 1) := by decide +kernel
theorem dX12_worthNow_21 : decode cX12_worthNow 21 = .ok (.ireturn, 1) := by decide +kernel
theorem dX12_worthNow_3 : decode cX12_worthNow 3 = .ok (.getfield 17, 3) := by decide +kernel
theorem dX12_worthNow_6 : decode cX12_worthNow 6 = .ok (.bipush 6, 2) := by decide +kernel
theorem dX12_worthNow_8 : decode cX12_worthNow 8 = .ok (.iload_n 1, 1) := by decide +kernel
theorem dX12_worthNow_9 : decode cX12_worthNow 9 = .ok (.iadd, 1) := by decide +kernel
def vfX12_worthNow : List Cond := List.cons (.code yX12_worthNow cX12_worthNow 2 (some .int)) (apW [.fieldLink RX12 17 "HookPierModel" "v" "[I", .methodLink RX12 323 yX12_keeps, .instanceMethod yX12_keeps, .selects RX12 yX12_keeps yX12_keeps, .initialized RX12] (apW wsX120 (vfX12_keeps)))
theorem ifX12_worthNow_X12 : ∀ w ∈ wsX120, w ∈ vfX12_worthNow := fun _ h => (List.mem_cons_of_mem _ (List.mem_append_right _ (List.mem_append_left _ h)))
theorem qfX12_worthNow : Good vfX12_worthNow := gd_cons (by decide +kernel) (gd_app (gd_dec (by decide +kernel) : Good [.fieldLink RX12 17 "HookPierModel" "v" "[I", .methodLink RX12 323 yX12_keeps, .instanceMethod yX12_keeps, .selects RX12 yX12_keeps yX12_keeps, .initialized RX12]) (gd_app qsX12 qfX12_keeps))
theorem gfX12_worthNow_0 : GoodIn vfX12_worthNow (wsV RX12 323 RX12 yX12_keeps vfX12_keeps) := goodIn_app (goodIn_r [.methodLink RX12 323 yX12_keeps, .instanceMethod yX12_keeps, .selects RX12 yX12_keeps yX12_keeps, .initialized RX12] [2, 3, 4, 5] rfl (by decide +kernel)) (goodIn_m (fun _ h => (List.mem_cons_of_mem _ (List.mem_append_right _ (List.mem_append_right _ h)))) qfX12_keeps)
set_option maxHeartbeats 2000000 in
set_option maxRecDepth 100000 in
theorem kfX12_worthNow (l : Launch) (dC : Nat → ClassId) (dI : Nat → Nat → Nat) (a0 : Nat) (k1 : Int32) (a2 : Nat) (a3 : Nat) (uq : Nat → Nat) (kq : Nat → ClassId) (m_v : TX12_v) (g7 : Value) (g8 : Value) (g9 : Value) (g10 : Value) (g11 : Value) (g12 : Value) (g13 : Value) (g14 : Value) (g15 : Value) (g16 : Value) (g17 : Value) (g18 : Value) (g19 : Value) (g20 : Value) (g21 : Value) (g22 : Value) (g23 : Value) (g24 : Value) (g25 : Value) (g26 : Value) (g27 : Value) (g28 : Value) (g29 : Value) (g30 : Value) (g31 : Value) (g32 : Value) (g33 : Value) (g34 : Value) (q_q : TX11_q) (cB36 : ClassId) (sz : Nat) (out : Int32) (h : f_X12_worthNow k1 m_v q_q = some out) : Met l yX12_worthNow vfX12_worthNow ({ frames := 1, cells := 0, slots := 0, locals := 24 }) (PC (dC, dI) [.ref a0, .int k1] sz ((a0, .inr (9, [g7, g8, g9, .ref a2, g10, g11, g12, g13, g14, g15, g16, g17, g18, g19, g20, .ref a3, g21, g22, g23, g24, g25, g26, g27, g28, g29, g30, g31, g32, g33, g34])) :: bX11 a2 uq kq q_q ([(a3, .inl (cB36, 26, .inl m_v))])) (tX11 kq ((cB36, .int) :: []))) (va_Qi (S := Unit) (fun (r : Int32) _ => r = out) (fun _ t => BC (dC, dI) (va_A ((a0, .inr (9, [g7, g8, g9, .ref a2, g10, g11, g12, g13, g14, g15, g16, g17, g18, g19, g20, .ref a3, g21, g22, g23, g24, g25, g26, g27, g28, g29, g30, g31, g32, g33, g34])) :: bX11 a2 uq kq q_q ([(a3, .inl (cB36, 26, .inl m_v))])) sz) ((a0, .inr (9, [g7, g8, g9, .ref a2, g10, g11, g12, g13, g14, g15, g16, g17, g18, g19, g20, .ref a3, g21, g22, g23, g24, g25, g26, g27, g28, g29, g30, g31, g32, g33, g34])) :: bX11 a2 uq kq q_q ([(a3, .inl (cB36, 26, .inl m_v))])) [] t) (va_A ((a0, .inr (9, [g7, g8, g9, .ref a2, g10, g11, g12, g13, g14, g15, g16, g17, g18, g19, g20, .ref a3, g21, g22, g23, g24, g25, g26, g27, g28, g29, g30, g31, g32, g33, g34])) :: bX11 a2 uq kq q_q ([(a3, .inl (cB36, 26, .inl m_v))])) sz)) 0 0 (va_A ((a0, .inr (9, [g7, g8, g9, .ref a2, g10, g11, g12, g13, g14, g15, g16, g17, g18, g19, g20, .ref a3, g21, g22, g23, g24, g25, g26, g27, g28, g29, g30, g31, g32, g33, g34])) :: bX11 a2 uq kq q_q ([(a3, .inl (cB36, 26, .inl m_v))])) sz) := by
  refine Met.ofW (cc := cX12_worthNow) (maxL := 2) (ret := (some .int)) (by decide) rfl ?_
  intro p e s m args below meth c s₁ B0 hml hv
  obtain ⟨rfl, hsz, hP, hK, hD0, hN⟩ := hv
  have hx := B0.exec
  have hb := B0.bytes
  have hr := B0.returns
  have hts := atoms_spec (ws := vfX12_worthNow) B0.pre
  have hown : s.vm.findClass RX12 = some m.cls := findClass_of_methodNamed B0.named
  have hlocks := B0.notSynchronized
  subst hsz
  have hD := hD0.self (sz := s.heap.size)
  generalize hAe : va_A ((a0, .inr (9, [g7, g8, g9, .ref a2, g10, g11, g12, g13, g14, g15, g16, g17, g18, g19, g20, .ref a3, g21, g22, g23, g24, g25, g26, g27, g28, g29, g30, g31, g32, g33, g34])) :: bX11 a2 uq kq q_q ([(a3, .inl (cB36, 26, .inl m_v))])) s.heap.size = A at hD ⊢
  have hA : ∀ q : Nat, s.heap.size ≤ q → A q := fun q h => by rw [← hAe]; exact Or.inr h
  have hS : va_S A s.heap s.heap [] := va_S.rf
  have hP : va_P (dC, dI) vwCl ((a0, .inr (9, [g7, g8, g9, .ref a2, g10, g11, g12, g13, g14, g15, g16, g17, g18, g19, g20, .ref a3, g21, g22, g23, g24, g25, g26, g27, g28, g29, g30, g31, g32, g33, g34])) :: bX11 a2 uq kq q_q ([(a3, .inl (cB36, 26, .inl m_v))])) s.heap := hP
  have hl := lv_entry ([.ref a0, .int k1]) (n := 2) (Nat.le_of_ble_eq_true rfl)
  rw [lg_entry_eq]
  generalize (lg_sl ([.ref a0, .int k1]) ++ List.replicate (2 - (lg_sl ([.ref a0, .int k1])).length) Slot.unset).toArray = ls at hl ⊢
  have hl : lv_has ls 2 [(0, .ref a0), (1, .int k1)] := hl
  refine W_q (fun QQ hQQ => ?_)
  rw [f_X12_worthNow] at h
  refine lv_aload_n hx hb dX12_worthNow_0 rfl (lv_at hl 0 rfl) ?_
  refine lv_iload_n hx hb dX12_worthNow_1 rfl (lv_at hl 1 rfl) ?_
  refine lv_aload_n hx hb dX12_worthNow_2 rfl (lv_at hl 0 rfl) ?_
  refine va_get (D := (dC, dI)) (ci := 9) (v := .ref a3) (C := RX12) (T := TX12) (N := 30) hx hb hts ifX12_worthNow_X12 hown hK hP 0 rfl rfl 15 (by decide) (hts (.fieldLink RX12 17 "HookPierModel" "v" "[I") (List.mem_of_getElem? (i := 1) rfl)) (fun _ h9 => h9) rfl dX12_worthNow_3 ?_
  refine lv_bipush (v := 6) hx hb dX12_worthNow_6 (by decide) ?_
  refine lv_iload_n hx hb dX12_worthNow_8 rfl (lv_at hl 1 rfl) ?_
  refine lv_iadd hx hb dX12_worthNow_9 ?_
  obtain ⟨hg10, h⟩ := gA_of h
  refine va_iald hx hb hK hP 16 14 rfl rfl hg10 dX12_worthNow_10 ?_
  refine lv_aload_n hx hb dX12_worthNow_11 rfl (lv_at hl 0 rfl) ?_
  refine va_get (D := (dC, dI)) (ci := 9) (v := .ref a3) (C := RX12) (T := TX12) (N := 30) hx hb hts ifX12_worthNow_X12 hown hK hP 0 rfl rfl 15 (by decide) (hts (.fieldLink RX12 17 "HookPierModel" "v" "[I") (List.mem_of_getElem? (i := 1) rfl)) (fun _ h9 => h9) rfl dX12_worthNow_12 ?_
  refine lv_bipush (v := 23) hx hb dX12_worthNow_15 (by decide) ?_
  refine va_iald hx hb hK hP 16 14 rfl rfl (by unfold vp_in; decide) dX12_worthNow_17 ?_
  obtain ⟨o18, eo18, h⟩ := bd_of h
  refine cl_i (wc := ((a0, .inr (9, [g7, g8, g9, .ref a2, g10, g11, g12, g13, g14, g15, g16, g17, g18, g19, g20, .ref a3, g21, g22, g23, g24, g25, g26, g27, g28, g29, g30, g31, g32, g33, g34])) :: bX11 a2 uq kq q_q [])) (wr := ([(a3, .inl (cB36, 26, .inl m_v))])) (va_runV (As := [.int k1, .int (m_v (((6 : Int32) + k1)).toNatClampNeg), .int (m_v ((23 : Int32)).toNatClampNeg)]) (rest := []) ⟨hx, hb, hml, hown, hts⟩ (kfX12_keeps l dC dI a0 k1 (m_v (((6 : Int32) + k1)).toNatClampNeg) (m_v ((23 : Int32)).toNatClampNeg) a2 uq kq (g7) (g8) (g9) (g10) (g11) (g12) (g13) (g14) (g15) (g16) (g17) (g18) (g19) (g20) (.ref a3) (g21) (g22) (g23) (g24) (g25) (g26) (g27) (g28) (g29) (g30) (g31) (g32) (g33) (g34) q_q s.heap.size o18 eo18) (cwV 3 hts gfX12_worthNow_0 rfl rfl rfl (by decide +kernel) ⟨(Nat.le_of_ble_eq_true rfl), (Nat.le_of_ble_eq_true rfl)⟩) (PV (hP.sub (ws' := ((a0, .inr (9, [g7, g8, g9, .ref a2, g10, g11, g12, g13, g14, g15, g16, g17, g18, g19, g20, .ref a3, g21, g22, g23, g24, g25, g26, g27, g28, g29, g30, g31, g32, g33, g34])) :: bX11 a2 uq kq q_q [])) [0, 1, 2, 3, 4, 5, 6, 7, 8, 9, 10, 11, 12, 13, 14, 15] rfl) (hK.sub (tys' := (tX11 kq ([]))) [0, 1, 2, 3, 4, 5, 6, 7, 8, 9, 10, 11, 12, 13] rfl) (hD.sub (ws' := ((a0, .inr (9, [g7, g8, g9, .ref a2, g10, g11, g12, g13, g14, g15, g16, g17, g18, g19, g20, .ref a3, g21, g22, g23, g24, g25, g26, g27, g28, g29, g30, g31, g32, g33, g34])) :: bX11 a2 uq kq q_q [])) [0, 1, 2, 3, 4, 5, 6, 7, 8, 9, 10, 11, 12, 13, 14, 15] (by decide) rfl) hN 0 rfl rfl) rfl rfl hl.1 rfl (lv_room (Nat.le_of_ble_eq_true rfl)) dX12_worthNow_18 ⟨(Nat.le_of_ble_eq_true rfl), (Nat.le_of_ble_eq_true rfl)⟩) hP hD hK hS hA [0, 1, 2, 3, 4, 5, 6, 7, 8, 9, 10, 11, 12, 13, 14, 15] [16] rfl rfl (by decide) (by decide) (fun r18 _ H locs hw hP hD _ hS => ?_)
  obtain rfl := hw.symm
  have hP : va_P (dC, dI) vwCl ((a3, .inl (cB36, 26, .inl m_v)) :: (a0, .inr (9, [g7, g8, g9, .ref a2, g10, g11, g12, g13, g14, g15, g16, g17, g18, g19, g20, .ref a3, g21, g22, g23, g24, g25, g26, g27, g28, g29, g30, g31, g32, g33, g34])) :: bX11 a2 uq kq q_q []) H := hP
  have hD : va_D A ((a3, .inl (cB36, 26, .inl m_v)) :: (a0, .inr (9, [g7, g8, g9, .ref a2, g10, g11, g12, g13, g14, g15, g16, g17, g18, g19, g20, .ref a3, g21, g22, g23, g24, g25, g26, g27, g28, g29, g30, g31, g32, g33, g34])) :: bX11 a2 uq kq q_q []) := hD
  obtain rfl := Option.some.inj h
  have hP9 := hP.sub (ws' := ((a0, .inr (9, [g7, g8, g9, .ref a2, g10, g11, g12, g13, g14, g15, g16, g17, g18, g19, g20, .ref a3, g21, g22, g23, g24, g25, g26, g27, g28, g29, g30, g31, g32, g33, g34])) :: bX11 a2 uq kq q_q ([(a3, .inl (cB36, 26, .inl m_v))]))) [1, 2, 3, 4, 5, 6, 7, 8, 9, 10, 11, 12, 13, 14, 15, 16, 0] rfl
  have hD9 := hD.sub (ws' := ((a0, .inr (9, [g7, g8, g9, .ref a2, g10, g11, g12, g13, g14, g15, g16, g17, g18, g19, g20, .ref a3, g21, g22, g23, g24, g25, g26, g27, g28, g29, g30, g31, g32, g33, g34])) :: bX11 a2 uq kq q_q ([(a3, .inl (cB36, 26, .inl m_v))]))) [1, 2, 3, 4, 5, 6, 7, 8, 9, 10, 11, 12, 13, 14, 15, 16, 0] (by decide) rfl
  have hK9 := hK.sub (tys' := []) [] rfl
  rw [hQQ]
  exact W.iret (v := o18) hx hb hr (fun t ht hW => ⟨⟨o18, (), rfl, rfl, by rw [ht]; exact hP9, va_K.moved hW.alike hK9, hD9⟩, hS.F ht⟩) hS.2.2 dX12_worthNow_21
