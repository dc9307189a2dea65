noncomputable def zrX12_refusesQuestion_0 : List ZR := zc 0 true (.iload_n 1) 1 (zc 1 true (.ifCond .eq 38) 3 (zc 4 true (.iload_n 2) 1 (zc 5 true (.iconst 0) 1 (zc 6 true (.aload_n 0) 1 (zc 7 true (.getfield 299) 3 (zc 10 true (.getfield 143) 3 (zc 13 true (.iconst 1) 1 (zc 14 true (.isub) 1 (zc 15 true (.invokestatic 115) 3 (zc 18 true (.ifCond .eq 21) 3 (zc 21 true (.iload 4) 2 (zc 23 true (.iconst 0) 1 (zc 24 true (.aload_n 0) 1 (zc 25 true (.getfield 299) 3 (zc 28 true (.getfield 175) 3 (zc 31 true (.iconst 1) 1 (zc 32 true (.isub) 1 (zc 33 true (.invokestatic 115) 3 (zc 36 true (.ifCond .ne 5) 3 (zc 39 true (.iconst 1) 1 (zc 40 true (.ireturn) 1 (zc 41 true (.iload_n 3) 1 (zc 42 true (.iconst 1) 1 (zc 43 true (.aload_n 0) 1 (zc 44 true (.getfield 299) 3 (zc 47 true (.getfield 207) 3 (zc 50 true (.invokestatic 115) 3 (zc 53 true (.ifCond .eq 7) 3 (zc 56 true (.iconst 0) 1 (zc 57 true (.goto 4) 3 (zc 60 true (.iconst 2) 1 (zc 61 true (.ireturn) 1 ([])))))))))))))))))))))))))))))))))
theorem zrX12_refusesQuestion_0_ok : zck 0 ((zby cX12_refusesQuestion).drop 0) zrX12_refusesQuestion_0 = true := by decide +kernel
def vfX12_refusesQuestion : List Cond := List.cons (.code yX12_refusesQuestion cX12_refusesQuestion 5 (some .int)) (apW [.fieldLink RX12 299 "HookPierModel" "pier" "LHookPierModel$Pier;", .methodLink RX12 115 yX12_in, .static yX12_in, .initialized RX12] (apW wsX120 (apW wsX110 (vfX12_in))))
theorem ifX12_refusesQuestion_X12 : ∀ w ∈ wsX120, w ∈ vfX12_refusesQuestion := fun _ h => (List.mem_cons_of_mem _ (List.mem_append_right _ (List.mem_append_left _ h)))
theorem ifX12_refusesQuestion_X11 : ∀ w ∈ wsX110, w ∈ vfX12_refusesQuestion := fun _ h => (List.mem_cons_of_mem _ (List.mem_append_right _ (List.mem_append_right _ (List.mem_append_left _ h))))
theorem qfX12_refusesQuestion : Good vfX12_refusesQuestion := gd_cons (by decide +kernel) (gd_app (gd_dec (by decide +kernel) : Good [.fieldLink RX12 299 "HookPierModel" "pier" "LHookPierModel$Pier;", .methodLink RX12 115 yX12_in, .static yX12_in, .initialized RX12]) (gd_app qsX12 (gd_app qsX11 qfX12_in)))
theorem gfX12_refusesQuestion_0 : GoodIn vfX12_refusesQuestion (va_wsS RX12 115 yX12_in vfX12_in) := goodIn_app (goodIn_r [.methodLink RX12 115 yX12_in, .static yX12_in, .initialized RX12] [2, 3, 4] rfl (by decide +kernel)) (goodIn_m (fun _ h => (List.mem_cons_of_mem _ (List.mem_append_right _ (List.mem_append_right _ (List.mem_append_right _ h))))) qfX12_in)
set_option maxHeartbeats 2000000 in
set_option maxRecDepth 100000 in
theorem kfX12_refusesQuestion (l : Launch) (dC : Nat → ClassId) (dI : Nat → Nat → Nat) (a0 : Nat) (k1 : Int32) (k2 : Int32) (k3 : Int32) (k4 : Int32) (a5 : Nat) (uq : Nat → Nat) (kq : Nat → ClassId) (g8 : Value) (g9 : Value) (g10 : Value) (g11 : Value) (g12 : Value) (g13 : Value) (g14 : Value) (g15 : Value) (g16 : Value) (g17 : Value) (g18 : Value) (g19 : Value) (g20 : Value) (g21 : Value) (g22 : Value) (g23 : Value) (g24 : Value) (g25 : Value) (g26 : Value) (g27 : Value) (g28 : Value) (g29 : Value) (g30 : Value) (g31 : Value) (g32 : Value) (g33 : Value) (g34 : Value) (g35 : Value) (g36 : Value) (q_q : TX11_q) (sz : Nat) (out : Int32) (h : f_X12_refusesQuestion k1 k2 k3 k4 q_q = out) : KDi l yX12_refusesQuestion vfX12_refusesQuestion ({ frames := 1, cells := 0, slots := 0, locals := 22 }) (dC, dI) [.ref a0, .int k1, .int k2, .int k3, .int k4] sz ((a0, .inr (9, [g8, g9, g10, .ref a5, g11, g12, g13, g14, g15, g16, g17, g18, g19, g20, g21, g22, g23, g24, g25, g26, g27, g28, g29, g30, g31, g32, g33, g34, g35, g36])) :: bX11 a5 uq kq q_q []) (tX11 kq ([])) (fun (r : Int32) _ => r = out) 0 0 := by
  refine Met.ofW (cc := cX12_refusesQuestion) (maxL := 5) (ret := (some .int)) (by decide) rfl ?_
  intro p e s m args below meth c s₁ B0 hml hv
  obtain ⟨rfl, hsz, hP, hK, hD0, hN⟩ := hv
  have hx := B0.exec
  have hb := B0.bytes
  have hr := B0.returns
  have hts := atoms_spec (ws := vfX12_refusesQuestion) B0.pre
  have hown : s.vm.findClass RX12 = some m.cls := findClass_of_methodNamed B0.named
  have hlocks := B0.notSynchronized
  subst hsz
  have hD := hD0.self (sz := s.heap.size)
  generalize hAe : va_A ((a0, .inr (9, [g8, g9, g10, .ref a5, g11, g12, g13, g14, g15, g16, g17, g18, g19, g20, g21, g22, g23, g24, g25, g26, g27, g28, g29, g30, g31, g32, g33, g34, g35, g36])) :: bX11 a5 uq kq q_q []) s.heap.size = A at hD ⊢
  have hA : ∀ q : Nat, s.heap.size ≤ q → A q := fun q h => by rw [← hAe]; exact Or.inr h
  have hS : va_S A s.heap s.heap [] := va_S.rf
  have hP : va_P (dC, dI) vwCl ((a0, .inr (9, [g8, g9, g10, .ref a5, g11, g12, g13, g14, g15, g16, g17, g18, g19, g20, g21, g22, g23, g24, g25, g26, g27, g28, g29, g30, g31, g32, g33, g34, g35, g36])) :: bX11 a5 uq kq q_q []) s.heap := hP
  have hl := lv_entry ([.ref a0, .int k1, .int k2, .int k3, .int k4]) (n := 5) (Nat.le_of_ble_eq_true rfl)
  rw [lg_entry_eq]
  generalize (lg_sl ([.ref a0, .int k1, .int k2, .int k3, .int k4]) ++ List.replicate (5 - (lg_sl ([.ref a0, .int k1, .int k2, .int k3, .int k4])).length) Slot.unset).toArray = ls at hl ⊢
  have hl : lv_has ls 5 [(0, .ref a0), (1, .int k1), (2, .int k2), (3, .int k3), (4, .int k4)] := hl
  refine W_q (fun QQ hQQ => ?_)
  rw [f_X12_refusesQuestion] at h
  refine lv_iload_n hx hb (zat zrX12_refusesQuestion_0_ok 0 rfl) rfl (lv_at hl 1 rfl) ?_
  refine lv_if_eq (tgt := 39) hx hb (zat zrX12_refusesQuestion_0_ok 1 rfl) (by decide) (fun c1 => ?_) (fun c1 => ?_)
  · have h := (if_pos c1).symm.trans h
    refine lv_iconst (v := 1) hx hb (zat zrX12_refusesQuestion_0_ok 20 rfl) (by decide) ?_
    obtain rfl := h
    obtain ⟨hP9, hD9⟩ := pd_sub ((a0, .inr (9, [g8, g9, g10, .ref a5, g11, g12, g13, g14, g15, g16, g17, g18, g19, g20, g21, g22, g23, g24, g25, g26, g27, g28, g29, g30, g31, g32, g33, g34, g35, g36])) :: bX11 a5 uq kq q_q []) [0, 1, 2, 3, 4, 5, 6, 7, 8, 9, 10, 11, 12, 13, 14, 15] hP hD (by decide) rfl
    have hK9 := hK.sub (tys' := []) [] rfl
    rw [hQQ]
    exact W.iret (v := (1 : Int32)) hx hb hr (fun t ht hW => ⟨⟨(1 : Int32), (), rfl, rfl, by rw [ht]; exact hP9, va_K.moved hW.alike hK9, hD9⟩, hS.F ht⟩) hS.2.2 (zat zrX12_refusesQuestion_0_ok 21 rfl)
  · have h := (if_neg c1).symm.trans h
    refine lv_iload_n hx hb (zat zrX12_refusesQuestion_0_ok 2 rfl) rfl (lv_at hl 2 rfl) ?_
    refine lv_iconst (v := 0) hx hb (zat zrX12_refusesQuestion_0_ok 3 rfl) (by decide) ?_
    refine lv_aload_n hx hb (zat zrX12_refusesQuestion_0_ok 4 rfl) rfl (lv_at hl 0 rfl) ?_
    refine va_get (D := (dC, dI)) (ci := 9) (v := .ref a5) (C := RX12) (T := TX12) (N := 30) hx hb hts ifX12_refusesQuestion_X12 hown hK hP 0 rfl rfl 3 (by decide) (hts (.fieldLink RX12 299 "HookPierModel" "pier" "LHookPierModel$Pier;") (List.mem_of_getElem? (i := 1) rfl)) (fun _ h9 => h9) rfl (zat zrX12_refusesQuestion_0_ok 5 rfl) ?_
    refine va_getN (D := (dC, dI)) (ci := 8) (v := .int q_q.1) (C := RX11) (T := TX11) (N := 24) hx hb hts ifX12_refusesQuestion_X11 hown hK hP 1 rfl rfl 0 (by decide) (va_Nw.use rfl (hN.1 (.fieldLinkNest RX12 143 "HookPierModel$Pier" "spots" "I" "HookPierModel") (List.mem_of_getElem? (i := 22) rfl))) (fun _ h9 => h9) rfl (zat zrX12_refusesQuestion_0_ok 6 rfl) ?_
    refine lv_iconst (v := 1) hx hb (zat zrX12_refusesQuestion_0_ok 7 rfl) (by decide) ?_
    refine lv_isub hx hb (zat zrX12_refusesQuestion_0_ok 8 rfl) ?_
    obtain ⟨o15, eo15⟩ : ∃ o, o = f_X12_in k2 (0 : Int32) (q_q.1 - (1 : Int32)) := ⟨_, rfl⟩
    have h := nm_of h o15 eo15
    refine ck_i (wc := []) (wr := ((a0, .inr (9, [g8, g9, g10, .ref a5, g11, g12, g13, g14, g15, g16, g17, g18, g19, g20, g21, g22, g23, g24, g25, g26, g27, g28, g29, g30, g31, g32, g33, g34, g35, g36])) :: bX11 a5 uq kq q_q [])) hP hD hK hS hA [] [0, 1, 2, 3, 4, 5, 6, 7, 8, 9, 10, 11, 12, 13, 14, 15] rfl rfl (by decide) (by decide) (by decide) (fun hPc hDc => (va_runS (As := [.int k2, .int 0, .int (q_q.1 - (1 : Int32))]) (rest := []) ⟨hx, hb, hml, hown, hts⟩ (kfX12_in l dC dI k2 (0 : Int32) (q_q.1 - (1 : Int32)) s.heap.size o15 eo15.symm) (va_cwS 3 hts gfX12_refusesQuestion_0 rfl rfl rfl (by decide +kernel) ⟨(Nat.le_of_ble_eq_true rfl), (Nat.le_of_ble_eq_true rfl)⟩) (PS hPc (hK.sub (tys' := ([])) [] rfl) hDc hN) rfl rfl hl.1 rfl (lv_room (Nat.le_of_ble_eq_true rfl)) (zat zrX12_refusesQuestion_0_ok 9 rfl) ⟨(Nat.le_of_ble_eq_true rfl), (Nat.le_of_ble_eq_true rfl)⟩)) (fun r15 _ H locs hw hP hD _ hS => ?_)
    obtain ⟨hw, br15⟩ := hw
    obtain rfl := hw.symm
    obtain ⟨hP, hD⟩ := pd_mk ((a0, .inr (9, [g8, g9, g10, .ref a5, g11, g12, g13, g14, g15, g16, g17, g18, g19, g20, g21, g22, g23, g24, g25, g26, g27, g28, g29, g30, g31, g32, g33, g34, g35, g36])) :: bX11 a5 uq kq q_q []) hP hD
    refine lv_if_eq (tgt := 39) hx hb (zat zrX12_refusesQuestion_0_ok 10 rfl) (by decide) (fun c18 => ?_) (fun c18 => ?_)
    · have h := (if_pos c18).symm.trans h
      refine lv_iconst (v := 1) hx hb (zat zrX12_refusesQuestion_0_ok 20 rfl) (by decide) ?_
      obtain rfl := h
      obtain ⟨hP9, hD9⟩ := pd_sub ((a0, .inr (9, [g8, g9, g10, .ref a5, g11, g12, g13, g14, g15, g16, g17, g18, g19, g20, g21, g22, g23, g24, g25, g26, g27, g28, g29, g30, g31, g32, g33, g34, g35, g36])) :: bX11 a5 uq kq q_q []) [0, 1, 2, 3, 4, 5, 6, 7, 8, 9, 10, 11, 12, 13, 14, 15] hP hD (by decide) rfl
      have hK9 := hK.sub (tys' := []) [] rfl
      rw [hQQ]
      exact W.iret (v := (1 : Int32)) hx hb hr (fun t ht hW => ⟨⟨(1 : Int32), (), rfl, rfl, by rw [ht]; exact hP9, va_K.moved hW.alike hK9, hD9⟩, hS.F ht⟩) hS.2.2 (zat zrX12_refusesQuestion_0_ok 21 rfl)
    · have h := (if_neg c18).symm.trans h
      refine lv_iload hx hb (zat zrX12_refusesQuestion_0_ok 11 rfl) (lv_at hl 4 rfl) ?_
      refine lv_iconst (v := 0) hx hb (zat zrX12_refusesQuestion_0_ok 12 rfl) (by decide) ?_
      refine lv_aload_n hx hb (zat zrX12_refusesQuestion_0_ok 13 rfl) rfl (lv_at hl 0 rfl) ?_
      refine va_get (D := (dC, dI)) (ci := 9) (v := .ref a5) (C := RX12) (T := TX12) (N := 30) hx hb hts ifX12_refusesQuestion_X12 hown hK hP 0 rfl rfl 3 (by decide) (hts (.fieldLink RX12 299 "HookPierModel" "pier" "LHookPierModel$Pier;") (List.mem_of_getElem? (i := 1) rfl)) (fun _ h9 => h9) rfl (zat zrX12_refusesQuestion_0_ok 14 rfl) ?_
      refine va_getN (D := (dC, dI)) (ci := 8) (v := .int q_q.2.2.2.2.1) (C := RX11) (T := TX11) (N := 24) hx hb hts ifX12_refusesQuestion_X11 hown hK hP 1 rfl rfl 4 (by decide) (va_Nw.use rfl (hN.1 (.fieldLinkNest RX12 175 "HookPierModel$Pier" "baits" "I" "HookPierModel") (List.mem_of_getElem? (i := 26) rfl))) (fun _ h9 => h9) rfl (zat zrX12_refusesQuestion_0_ok 15 rfl) ?_
      refine lv_iconst (v := 1) hx hb (zat zrX12_refusesQuestion_0_ok 16 rfl) (by decide) ?_
      refine lv_isub hx hb (zat zrX12_refusesQuestion_0_ok 17 rfl) ?_
      obtain ⟨o33, eo33⟩ : ∃ o, o = f_X12_in k4 (0 : Int32) (q_q.2.2.2.2.1 - (1 : Int32)) := ⟨_, rfl⟩
      have h := nm_of h o33 eo33
      refine ck_i (wc := []) (wr := ((a0, .inr (9, [g8, g9, g10, .ref a5, g11, g12, g13, g14, g15, g16, g17, g18, g19, g20, g21, g22, g23, g24, g25, g26, g27, g28, g29, g30, g31, g32, g33, g34, g35, g36])) :: bX11 a5 uq kq q_q [])) hP hD hK hS hA [] [0, 1, 2, 3, 4, 5, 6, 7, 8, 9, 10, 11, 12, 13, 14, 15] rfl rfl (by decide) (by decide) (by decide) (fun hPc hDc => (va_runS (As := [.int k4, .int 0, .int (q_q.2.2.2.2.1 - (1 : Int32))]) (rest := []) ⟨hx, hb, hml, hown, hts⟩ (kfX12_in l dC dI k4 (0 : Int32) (q_q.2.2.2.2.1 - (1 : Int32)) H.size o33 eo33.symm) (va_cwS 3 hts gfX12_refusesQuestion_0 rfl rfl rfl (by decide +kernel) ⟨(Nat.le_of_ble_eq_true rfl), (Nat.le_of_ble_eq_true rfl)⟩) (PS hPc (hK.sub (tys' := ([])) [] rfl) hDc hN) rfl rfl hl.1 rfl (lv_room (Nat.le_of_ble_eq_true rfl)) (zat zrX12_refusesQuestion_0_ok 18 rfl) ⟨(Nat.le_of_ble_eq_true rfl), (Nat.le_of_ble_eq_true rfl)⟩)) (fun r33 _ H locs hw hP hD _ hS => ?_)
      obtain ⟨hw, br33⟩ := hw
      obtain rfl := hw.symm
      obtain ⟨hP, hD⟩ := pd_mk ((a0, .inr (9, [g8, g9, g10, .ref a5, g11, g12, g13, g14, g15, g16, g17, g18, g19, g20, g21, g22, g23, g24, g25, g26, g27, g28, g29, g30, g31, g32, g33, g34, g35, g36])) :: bX11 a5 uq kq q_q []) hP hD
      refine lv_if_ne (tgt := 41) hx hb (zat zrX12_refusesQuestion_0_ok 19 rfl) (by decide) (fun c36 => ?_) (fun c36 => ?_)
      · have h := (if_neg c36).symm.trans h
        refine lv_iload_n hx hb (zat zrX12_refusesQuestion_0_ok 22 rfl) rfl (lv_at hl 3 rfl) ?_
        refine lv_iconst (v := 1) hx hb (zat zrX12_refusesQuestion_0_ok 23 rfl) (by decide) ?_
        refine lv_aload_n hx hb (zat zrX12_refusesQuestion_0_ok 24 rfl) rfl (lv_at hl 0 rfl) ?_
        refine va_get (D := (dC, dI)) (ci := 9) (v := .ref a5) (C := RX12) (T := TX12) (N := 30) hx hb hts ifX12_refusesQuestion_X12 hown hK hP 0 rfl rfl 3 (by decide) (hts (.fieldLink RX12 299 "HookPierModel" "pier" "LHookPierModel$Pier;") (List.mem_of_getElem? (i := 1) rfl)) (fun _ h9 => h9) rfl (zat zrX12_refusesQuestion_0_ok 25 rfl) ?_
        refine va_getN (D := (dC, dI)) (ci := 8) (v := .int q_q.2.1) (C := RX11) (T := TX11) (N := 24) hx hb hts ifX12_refusesQuestion_X11 hown hK hP 1 rfl rfl 1 (by decide) (va_Nw.use rfl (hN.1 (.fieldLinkNest RX12 207 "HookPierModel$Pier" "deep" "I" "HookPierModel") (List.mem_of_getElem? (i := 23) rfl))) (fun _ h9 => h9) rfl (zat zrX12_refusesQuestion_0_ok 26 rfl) ?_
        obtain ⟨o50, eo50⟩ : ∃ o, o = f_X12_in k3 (1 : Int32) q_q.2.1 := ⟨_, rfl⟩
        have h := nm_of h o50 eo50
        refine ck_i (wc := []) (wr := ((a0, .inr (9, [g8, g9, g10, .ref a5, g11, g12, g13, g14, g15, g16, g17, g18, g19, g20, g21, g22, g23, g24, g25, g26, g27, g28, g29, g30, g31, g32, g33, g34, g35, g36])) :: bX11 a5 uq kq q_q [])) hP hD hK hS hA [] [0, 1, 2, 3, 4, 5, 6, 7, 8, 9, 10, 11, 12, 13, 14, 15] rfl rfl (by decide) (by decide) (by decide) (fun hPc hDc => (va_runS (As := [.int k3, .int 1, .int q_q.2.1]) (rest := []) ⟨hx, hb, hml, hown, hts⟩ (kfX12_in l dC dI k3 (1 : Int32) q_q.2.1 H.size o50 eo50.symm) (va_cwS 3 hts gfX12_refusesQuestion_0 rfl rfl rfl (by decide +kernel) ⟨(Nat.le_of_ble_eq_true rfl), (Nat.le_of_ble_eq_true rfl)⟩) (PS hPc (hK.sub (tys' := ([])) [] rfl) hDc hN) rfl rfl hl.1 rfl (lv_room (Nat.le_of_ble_eq_true rfl)) (zat zrX12_refusesQuestion_0_ok 27 rfl) ⟨(Nat.le_of_ble_eq_true rfl), (Nat.le_of_ble_eq_true rfl)⟩)) (fun r50 _ H locs hw hP hD _ hS => ?_)
        obtain ⟨hw, br50⟩ := hw
        obtain rfl := hw.symm
        obtain ⟨hP, hD⟩ := pd_mk ((a0, .inr (9, [g8, g9, g10, .ref a5, g11, g12, g13, g14, g15, g16, g17, g18, g19, g20, g21, g22, g23, g24, g25, g26, g27, g28, g29, g30, g31, g32, g33, g34, g35, g36])) :: bX11 a5 uq kq q_q []) hP hD
        refine lv_if_eq (tgt := 60) hx hb (zat zrX12_refusesQuestion_0_ok 28 rfl) (by decide) (fun c53 => ?_) (fun c53 => ?_)
        · have h := (if_pos c53).symm.trans h
          refine lv_iconst (v := 2) hx hb (zat zrX12_refusesQuestion_0_ok 31 rfl) (by decide) ?_
          obtain rfl := h
          obtain ⟨hP9, hD9⟩ := pd_sub ((a0, .inr (9, [g8, g9, g10, .ref a5, g11, g12, g13, g14, g15, g16, g17, g18, g19, g20, g21, g22, g23, g24, g25, g26, g27, g28, g29, g30, g31, g32, g33, g34, g35, g36])) :: bX11 a5 uq kq q_q []) [0, 1, 2, 3, 4, 5, 6, 7, 8, 9, 10, 11, 12, 13, 14, 15] hP hD (by decide) rfl
          have hK9 := hK.sub (tys' := []) [] rfl
          rw [hQQ]
          exact W.iret (v := (2 : Int32)) hx hb hr (fun t ht hW => ⟨⟨(2 : Int32), (), rfl, rfl, by rw [ht]; exact hP9, va_K.moved hW.alike hK9, hD9⟩, hS.F ht⟩) hS.2.2 (zat zrX12_refusesQuestion_0_ok 32 rfl)
        · have h := (if_neg c53).symm.trans h
          refine lv_iconst (v := 0) hx hb (zat zrX12_refusesQuestion_0_ok 29 rfl) (by decide) ?_
          refine lv_goto (tgt := 61) hx hb (zat zrX12_refusesQuestion_0_ok 30 rfl) (by decide) ?_
          obtain rfl := h
          obtain ⟨hP9, hD9⟩ := pd_sub ((a0, .inr (9, [g8, g9, g10, .ref a5, g11, g12, g13, g14, g15, g16, g17, g18, g19, g20, g21, g22, g23, g24, g25, g26, g27, g28, g29, g30, g31, g32, g33, g34, g35, g36])) :: bX11 a5 uq kq q_q []) [0, 1, 2, 3, 4, 5, 6, 7, 8, 9, 10, 11, 12, 13, 14, 15] hP hD (by decide) rfl
          have hK9 := hK.sub (tys' := []) [] rfl
          rw [hQQ]
          exact W.iret (v := (0 : Int32)) hx hb hr (fun t ht hW => ⟨⟨(0 : Int32), (), rfl, rfl, by rw [ht]; exact hP9, va_K.moved hW.alike hK9, hD9⟩, hS.F ht⟩) hS.2.2 (zat zrX12_refusesQuestion_0_ok 32 rfl)
      · have h := (if_pos c36).symm.trans h
        refine lv_iconst (v := 1) hx hb (zat zrX12_refusesQuestion_0_ok 20 rfl) (by decide) ?_
        obtain rfl := h
        obtain ⟨hP9, hD9⟩ := pd_sub ((a0, .inr (9, [g8, g9, g10, .ref a5, g11, g12, g13, g14, g15, g16, g17, g18, g19, g20, g21, g22, g23, g24, g25, g26, g27, g28, g29, g30, g31, g32, g33, g34, g35, g36])) :: bX11 a5 uq kq q_q []) [0, 1, 2, 3, 4, 5, 6, 7, 8, 9, 10, 11, 12, 13, 14, 15] hP hD (by decide) rfl
        have hK9 := hK.sub (tys' := []) [] rfl
        rw [hQQ]
        exact W.iret (v := (1 : Int32)) hx hb hr (fun t ht hW => ⟨⟨(1 : Int32), (), rfl, rfl, by rw [ht]; exact hP9, va_K.moved hW.alike hK9, hD9⟩, hS.F ht⟩) hS.2.2 (zat zrX12_refusesQuestion_0_ok 21 rfl)
noncomputable def zrX11_isClose_0 : List ZR := zc 0 true (.iload_n 1) 1 (zc 1 true (.aload_n 0) 1 (zc 2 true (.getfield 81) 3 (zc 5 true (.if_icmp .lt 15) 3 (zc 8 true (.iload_n 1) 1 (zc 9 true (.aload_n 0) 1 (zc 10 true (.getfield 84) 3 (zc 13 true (.if_icmp .gt 7) 3 (zc 16 true (.iconst 1) 1 (zc 17 true (.goto 4) 3 (zc 20 true (.iconst 0) 1 (zc 21 true (.ireturn) 1 ([]))))))))))))
theorem zrX11_isClose_0_ok : zck 0 ((zby cX11_isClose).drop 0) zrX11_isClose_0 = true := by decide +kernel
def vfX11_isClose : List Cond := List.cons (.code yX11_isClose cX11_isClose 2 (some .boolean)) (apW [.fieldLink RX11 81 "HookPierModel$Pier" "from" "I", .fieldLink RX11 84 "HookPierModel$Pier" "to" "I"] (wsX110))
theorem ifX11_isClose_X11 : ∀ w ∈ wsX110, w ∈ vfX11_isClose := fun _ h => (List.mem_cons_of_mem _ (List.mem_append_right _ h))
theorem qfX11_isClose : Good vfX11_isClose := gd_cons (by decide +kernel) (gd_app (gd_dec (by decide +kernel) : Good [.fieldLink RX11 81 "HookPierModel$Pier" "from" "I", .fieldLink RX11 84 "HookPierModel$Pier" "to" "I"]) qsX11)
set_option maxHeartbeats 2000000 in
set_option maxRecDepth 100000 in
theorem kfX11_isClose (l : Launch) (dC : Nat → ClassId) (dI : Nat → Nat → Nat) (a0 : Nat) (k1 : Int32) (uq : Nat → Nat) (kq : Nat → ClassId) (q_q : TX11_q) (sz : Nat) (out : Int32) (h : f_X11_isClose k1 q_q = out) : KDi l yX11_isClose vfX11_isClose ({ frames := 0, cells := 0, slots := 0, locals := 0 }) (dC, dI) [.ref a0, .int k1] sz (bX11 a0 uq kq q_q []) (tX11 kq ([])) (fun (r : Int32) _ => r = out ∧ (0 ≤ r.toInt ∧ r.toInt ≤ 1)) 0 0 := by
  refine Met.ofW (cc := cX11_isClose) (maxL := 2) (ret := (some .boolean)) (by decide) rfl ?_
  intro p e s m args below meth c s₁ B0 hml hv
  obtain ⟨rfl, hsz, hP, hK, hD0, hN⟩ := hv
  have hx := B0.exec
  have hb := B0.bytes
  have hr := B0.returns
  have hts := atoms_spec (ws := vfX11_isClose) B0.pre
  have hown : s.vm.findClass RX11 = some m.cls := findClass_of_methodNamed B0.named
  have hlocks := B0.notSynchronized
  subst hsz
  have hD := hD0.self (sz := s.heap.size)
  generalize hAe : va_A (bX11 a0 uq kq q_q []) s.heap.size = A at hD ⊢
  have hA : ∀ q : Nat, s.heap.size ≤ q → A q := fun q h => by rw [← hAe]; exact Or.inr h
  have hS : va_S A s.heap s.heap [] := va_S.rf
  have hP : va_P (dC, dI) vwCl (bX11 a0 uq kq q_q []) s.heap := hP
  have hl := lv_entry ([.ref a0, .int k1]) (n := 2) (Nat.le_of_ble_eq_true rfl)
  rw [lg_entry_eq]
  generalize (lg_sl ([.ref a0, .int k1]) ++ List.replicate (2 - (lg_sl ([.ref a0, .int k1])).length) Slot.unset).toArray = ls at hl ⊢
  have hl : lv_has ls 2 [(0, .ref a0), (1, .int k1)] := hl
  refine W_q (fun QQ hQQ => ?_)
  rw [f_X11_isClose] at h
  refine lv_iload_n hx hb (zat zrX11_isClose_0_ok 0 rfl) rfl (lv_at hl 1 rfl) ?_
  refine lv_aload_n hx hb (zat zrX11_isClose_0_ok 1 rfl) rfl (lv_at hl 0 rfl) ?_
  refine va_get (D := (dC, dI)) (ci := 8) (v := .int q_q.2.2.1) (C := RX11) (T := TX11) (N := 24) hx hb hts ifX11_isClose_X11 hown hK hP 0 rfl rfl 2 (by decide) (hts (.fieldLink RX11 81 "HookPierModel$Pier" "from" "I") (List.mem_of_getElem? (i := 1) rfl)) (fun _ h9 => h9) rfl (zat zrX11_isClose_0_ok 2 rfl) ?_
  refine lv_icmp_lt (tgt := 20) hx hb (zat zrX11_isClose_0_ok 3 rfl) (by decide) (fun c5 => ?_) (fun c5 => ?_)
  · have h := (if_pos c5).symm.trans h
    refine lv_iconst (v := 0) hx hb (zat zrX11_isClose_0_ok 10 rfl) (by decide) ?_
    obtain rfl := h
    obtain ⟨hP9, hD9⟩ := pd_sub (bX11 a0 uq kq q_q []) [0, 1, 2, 3, 4, 5, 6, 7, 8, 9, 10, 11, 12, 13, 14] hP hD (by decide) rfl
    have hK9 := hK.sub (tys' := []) [] rfl
    rw [hQQ]
    exact W.zret (v := (0 : Int32)) hx hb hr rfl (fun t ht hW => ⟨⟨(0 : Int32), (), rfl, ⟨rfl, (by decide)⟩, by rw [ht]; exact hP9, va_K.moved hW.alike hK9, hD9⟩, hS.F ht⟩) hS.2.2 (zat zrX11_isClose_0_ok 11 rfl)
  · have h := (if_neg c5).symm.trans h
    refine lv_iload_n hx hb (zat zrX11_isClose_0_ok 4 rfl) rfl (lv_at hl 1 rfl) ?_
    refine lv_aload_n hx hb (zat zrX11_isClose_0_ok 5 rfl) rfl (lv_at hl 0 rfl) ?_
    refine va_get (D := (dC, dI)) (ci := 8) (v := .int q_q.2.2.2.1) (C := RX11) (T := TX11) (N := 24) hx hb hts ifX11_isClose_X11 hown hK hP 0 rfl rfl 3 (by decide) (hts (.fieldLink RX11 84 "HookPierModel$Pier" "to" "I") (List.mem_of_getElem? (i := 2) rfl)) (fun _ h9 => h9) rfl (zat zrX11_isClose_0_ok 6 rfl) ?_
    refine lv_icmp_gt (tgt := 20) hx hb (zat zrX11_isClose_0_ok 7 rfl) (by decide) (fun c13 => ?_) (fun c13 => ?_)
    · have h := (if_pos c13).symm.trans h
      refine lv_iconst (v := 0) hx hb (zat zrX11_isClose_0_ok 10 rfl) (by decide) ?_
      obtain rfl := h
      obtain ⟨hP9, hD9⟩ := pd_sub (bX11 a0 uq kq q_q []) [0, 1, 2, 3, 4, 5, 6, 7, 8, 9, 10, 11, 12, 13, 14] hP hD (by decide) rfl
      have hK9 := hK.sub (tys' := []) [] rfl
      rw [hQQ]
      exact W.zret (v := (0 : Int32)) hx hb hr rfl (fun t ht hW => ⟨⟨(0 : Int32), (), rfl, ⟨rfl, (by decide)⟩, by rw [ht]; exact hP9, va_K.moved hW.alike hK9, hD9⟩, hS.F ht⟩) hS.2.2 (zat zrX11_isClose_0_ok 11 rfl)
    · have h := (if_neg c13).symm.trans h
      refine lv_iconst (v := 1) hx hb (zat zrX11_isClose_0_ok 8 rfl) (by decide) ?_
      refine lv_goto (tgt := 21) hx hb (zat zrX11_isClose_0_ok 9 rfl) (by decide) ?_
      obtain rfl := h
      obtain ⟨hP9, hD9⟩ := pd_sub (bX11 a0 uq kq q_q []) [0, 1, 2, 3, 4, 5, 6, 7, 8, 9, 10, 11, 12, 13, 14] hP hD (by decide) rfl
      have hK9 := hK.sub (tys' := []) [] rfl
      rw [hQQ]
      exact W.zret (v := (1 : Int32)) hx hb hr rfl (fun t ht hW => ⟨⟨(1 : Int32), (), rfl, ⟨rfl, (by decide)⟩, by rw [ht]; exact hP9, va_K.moved hW.alike hK9, hD9⟩, hS.F ht⟩) hS.2.2 (zat zrX11_isClose_0_ok 11 rfl)
noncomputable def zrX12_remembers_0 : List ZR := zc 0 true (.aload_n 0) 1 (zc 1 true (.getfield 301) 3 (zc 4 true (.bipush 16) 2 (zc 6 true (.if_icmp .ne 43) 3 (zc 9 true (.iconst 0) 1 (zc 10 true (.istore_n 1) 1 (zc 11 true (.iload_n 1) 1 (zc 12 true (.sipush 390) 3 (zc 15 true (.if_icmp .ge 24) 3 (zc 18 true (.aload_n 0) 1 (zc 19 true (.getfield 24) 3 (zc 22 true (.iload_n 1) 1 (zc 23 true (.aload_n 0) 1 (zc 24 true (.getfield 24) 3 (zc 27 true (.iload_n 1) 1 (zc 28 true (.bipush 26) 2 (zc 30 true (.iadd) 1 (zc 31 true (.iaload) 1 (zc 32 true (.iastore) 1 (zc 33 true (.iinc 1 1) 3 (zc 36 true (.goto (-25)) 3 (zc 39 true (.aload_n 0) 1 (zc 40 true (.dup) 1 (zc 41 true (.getfield 301) 3 (zc 44 true (.iconst 1) 1 (zc 45 true (.isub) 1 (zc 46 true (.putfield 301) 3 (zc 49 true (.iconst 0) 1 (zc 50 true (.istore_n 1) 1 (zc 51 true (.iload_n 1) 1 (zc 52 true (.bipush 26) 2 (zc 54 true (.if_icmp .ge 29) 3 (zc 57 true (.aload_n 0) 1 (zc 58 true (.getfield 24) 3 (zc 61 true (.bipush 26) 2 (zc 63 true (.aload_n 0) 1 (zc 64 true (.getfield 301) 3 (zc 67 true (.imul) 1 (zc 68 true (.iload_n 1) 1 (zc 69 true (.iadd) 1 (zc 70 true (.aload_n 0) 1 (zc 71 true (.getfield 17) 3 (zc 74 true (.iload_n 1) 1 (zc 75 true (.iaload) 1 (zc 76 true (.iastore) 1 (zc 77 true (.iinc 1 1) 3 (zc 80 true (.goto (-29)) 3 (zc 83 true (.aload_n 0) 1 (zc 84 true (.dup) 1 (zc 85 true (.getfield 301) 3 (zc 88 true (.iconst 1) 1 (zc 89 true (.iadd) 1 (zc 90 true (.putfield 301) 3 (zc 93 true (.return_) 1 ([]))))))))))))))))))))))))))))))))))))))))))))))))))))))
theorem zrX12_remembers_0_ok : zck 0 ((zby cX12_remembers).drop 0) zrX12_remembers_0 = true := by decide +kernel
def vfX12_remembers : List Cond := List.cons (.code yX12_remembers cX12_remembers 2 none) (apW [.fieldLink RX12 301 "HookPierModel" "acts" "I", .fieldLink RX12 24 "HookPierModel" "past" "[I", .fieldLink RX12 17 "HookPierModel" "v" "[I"] (wsX120))
theorem ifX12_remembers_X12 : ∀ w ∈ wsX120, w ∈ vfX12_remembers := fun _ h => (List.mem_cons_of_mem _ (List.mem_append_right _ h))
theorem qfX12_remembers : Good vfX12_remembers := gd_cons (by decide +kernel) (gd_app (gd_dec (by decide +kernel) : Good [.fieldLink RX12 301 "HookPierModel" "acts" "I", .fieldLink RX12 24 "HookPierModel" "past" "[I", .fieldLink RX12 17 "HookPierModel" "v" "[I"]) qsX12)
set_option maxHeartbeats 2000000 in
set_option maxRecDepth 100000 in
theorem kfX12_remembers (l : Launch) (dC : Nat → ClassId) (dI : Nat → Nat → Nat) (a0 : Nat) (a1 : Nat) (a2 : Nat) (a3 : Nat) (m_v : TX12_v) (m_h : TX12_h) (g6 : Value) (g7 : Value) (g8 : Value) (g9 : Value) (g10 : Value) (g11 : Value) (g12 : Value) (g13 : Value) (g14 : Value) (g15 : Value) (g16 : Value) (g17 : Value) (g18 : Value) (g19 : Value) (g20 : Value) (g21 : Value) (g22 : Value) (g23 : Value) (g24 : Value) (g25 : Value) (g26 : Value) (g27 : Value) (g28 : Value) (g29 : Value) (g30 : Value) (cB31 : ClassId) (cB32 : ClassId) (cB33 : ClassId) (sz : Nat) (out : TX12_h) (h : f_X12_remembers m_v m_h = some out) : KCv l yX12_remembers vfX12_remembers ({ frames := 0, cells := 0, slots := 0, locals := 0 }) (dC, dI) [.ref a0] sz ([(a0, .inr (9, [g6, g7, g8, g9, g10, g11, g12, g13, g14, g15, g16, g17, g18, g19, g20, .ref a1, g21, .ref a2, .ref a3, .int m_h.2.2.1, .int m_h.2.2.2, g22, g23, g24, g25, g26, g27, g28, g29, g30])), (a1, .inl (cB31, 26, .inl m_v)), (a2, .inl (cB32, 416, .inl m_h.1)), (a3, .inl (cB33, 78, .inl m_h.2.1))]) ((cB31, .int) :: (cB32, .int) :: (cB33, .int) :: []) (fun _ => True) ([(a0, .inr (9, [g6, g7, g8, g9, g10, g11, g12, g13, g14, g15, g16, g17, g18, g19, g20, .ref a1, g21, .ref a2, .ref a3, .int out.2.2.1, .int out.2.2.2, g22, g23, g24, g25, g26, g27, g28, g29, g30])), (a1, .inl (cB31, 26, .inl m_v)), (a2, .inl (cB32, 416, .inl out.1)), (a3, .inl (cB33, 78, .inl out.2.1))]) 0 0 := by
  refine Met.ofW (cc := cX12_remembers) (maxL := 2) (ret := none) (by decide) rfl ?_
  intro p e s m args below meth c s₁ B0 hml hv
  obtain ⟨rfl, hsz, hP, hK, hD0, hN⟩ := hv
  have hx := B0.exec
  have hb := B0.bytes
  have hr := B0.returns
  have hts := atoms_spec (ws := vfX12_remembers) B0.pre
  have hown : s.vm.findClass RX12 = some m.cls := findClass_of_methodNamed B0.named
  have hlocks := B0.notSynchronized
  subst hsz
  have hD := hD0.self (sz := s.heap.size)
  generalize hAe : va_A ([(a0, .inr (9, [g6, g7, g8, g9, g10, g11, g12, g13, g14, g15, g16, g17, g18, g19, g20, .ref a1, g21, .ref a2, .ref a3, .int m_h.2.2.1, .int m_h.2.2.2, g22, g23, g24, g25, g26, g27, g28, g29, g30])), (a1, .inl (cB31, 26, .inl m_v)), (a2, .inl (cB32, 416, .inl m_h.1)), (a3, .inl (cB33, 78, .inl m_h.2.1))]) s.heap.size = A at hD ⊢
  have hA : ∀ q : Nat, s.heap.size ≤ q → A q := fun q h => by rw [← hAe]; exact Or.inr h
  have hS : va_S A s.heap s.heap [] := va_S.rf
  have hP : va_P (dC, dI) vwCl ([(a0, .inr (9, [g6, g7, g8, g9, g10, g11, g12, g13, g14, g15, g16, g17, g18, g19, g20, .ref a1, g21, .ref a2, .ref a3, .int m_h.2.2.1, .int m_h.2.2.2, g22, g23, g24, g25, g26, g27, g28, g29, g30])), (a1, .inl (cB31, 26, .inl m_v)), (a2, .inl (cB32, 416, .inl m_h.1)), (a3, .inl (cB33, 78, .inl m_h.2.1))]) s.heap := hP
  have hl := lv_entry ([.ref a0]) (n := 2) (Nat.le_of_ble_eq_true rfl)
  rw [lg_entry_eq]
  generalize (lg_sl ([.ref a0]) ++ List.replicate (2 - (lg_sl ([.ref a0])).length) Slot.unset).toArray = ls at hl ⊢
  have hl : lv_has ls 2 [(0, .ref a0)] := hl
  refine W_q (fun QQ hQQ => ?_)
  rw [f_X12_remembers] at h
  refine lv_aload_n hx hb (zat zrX12_remembers_0_ok 0 rfl) rfl (lv_at hl 0 rfl) ?_
  refine va_get (D := (dC, dI)) (ci := 9) (v := .int m_h.2.2.1) (C := RX12) (T := TX12) (N := 30) hx hb hts ifX12_remembers_X12 hown hK hP 0 rfl rfl 19 (by decide) (hts (.fieldLink RX12 301 "HookPierModel" "acts" "I") (List.mem_of_getElem? (i := 1) rfl)) (fun _ h9 => h9) rfl (zat zrX12_remembers_0_ok 1 rfl) ?_
  refine lv_bipush (v := 16) hx hb (zat zrX12_remembers_0_ok 2 rfl) (by decide) ?_
  have J49 : ∀ (v49_m_h : TX12_h) (H : Heap) (locs : List Loc) (ls : Array Slot), f_X12_remembers_J49 m_v v49_m_h = some out → va_P (dC, dI) vwCl ([(a0, .inr (9, [g6, g7, g8, g9, g10, g11, g12, g13, g14, g15, g16, g17, g18, g19, g20, .ref a1, g21, .ref a2, .ref a3, .int v49_m_h.2.2.1, .int v49_m_h.2.2.2, g22, g23, g24, g25, g26, g27, g28, g29, g30])), (a1, .inl (cB31, 26, .inl m_v)), (a2, .inl (cB32, 416, .inl v49_m_h.1)), (a3, .inl (cB33, 78, .inl v49_m_h.2.1))]) H → va_D A ([(a0, .inr (9, [g6, g7, g8, g9, g10, g11, g12, g13, g14, g15, g16, g17, g18, g19, g20, .ref a1, g21, .ref a2, .ref a3, .int v49_m_h.2.2.1, .int v49_m_h.2.2.2, g22, g23, g24, g25, g26, g27, g28, g29, g30])), (a1, .inl (cB31, 26, .inl m_v)), (a2, .inl (cB32, 416, .inl v49_m_h.1)), (a3, .inl (cB33, 78, .inl v49_m_h.2.1))]) → va_S A s.heap H locs → lv_has ls 2 [(0, .ref a0)] → W p l e (headSpec vfX12_remembers { frames := 0, cells := 0, slots := 0, locals := 0 }).room s m ([.ref a0]).toArray below meth c H locs 0 0 QQ (F0 m 49 ls []) := by
    intro v49_m_h H locs ls h  hP hD hS hl
    rw [f_X12_remembers_J49] at h
    refine lv_iconst (v := 0) hx hb (zat zrX12_remembers_0_ok 27 rfl) (by decide) ?_
    refine lv_istore_n (lv' := [(1, .int 0), (0, .ref a0)]) hx hb (zat zrX12_remembers_0_ok 28 rfl) rfl hl (by decide) rfl (fun ls hl => ?_)
    have L51 : ∀ (n51 : Nat) (v51_l1 : Int32) (v51_m_h : TX12_h) (H : Heap) (locs : List Loc) (ls : Array Slot), f_X12_remembers_L51 m_v n51 v51_l1 v51_m_h = some out → va_P (dC, dI) vwCl ([(a0, .inr (9, [g6, g7, g8, g9, g10, g11, g12, g13, g14, g15, g16, g17, g18, g19, g20, .ref a1, g21, .ref a2, .ref a3, .int v51_m_h.2.2.1, .int v51_m_h.2.2.2, g22, g23, g24, g25, g26, g27, g28, g29, g30])), (a1, .inl (cB31, 26, .inl m_v)), (a2, .inl (cB32, 416, .inl v51_m_h.1)), (a3, .inl (cB33, 78, .inl v51_m_h.2.1))]) H → va_D A ([(a0, .inr (9, [g6, g7, g8, g9, g10, g11, g12, g13, g14, g15, g16, g17, g18, g19, g20, .ref a1, g21, .ref a2, .ref a3, .int v51_m_h.2.2.1, .int v51_m_h.2.2.2, g22, g23, g24, g25, g26, g27, g28, g29, g30])), (a1, .inl (cB31, 26, .inl m_v)), (a2, .inl (cB32, 416, .inl v51_m_h.1)), (a3, .inl (cB33, 78, .inl v51_m_h.2.1))]) → va_S A s.heap H locs → lv_has ls 2 [(1, .int v51_l1), (0, .ref a0)] → W p l e (headSpec vfX12_remembers { frames := 0, cells := 0, slots := 0, locals := 0 }).room s m ([.ref a0]).toArray below meth c H locs 0 0 QQ (F0 m 51 ls []) := by
      intro n51
      induction n51 with
      | zero =>
        intro v51_l1 v51_m_h H locs ls h  _ _ _ _
        rw [f_X12_remembers_L51] at h
        cases h
      | succ n51 ih51 =>
        intro v51_l1 v51_m_h H locs ls h  hP hD hS hl
        rw [f_X12_remembers_L51] at h
        refine lv_iload_n hx hb (zat zrX12_remembers_0_ok 29 rfl) rfl (lv_at hl 0 rfl) ?_
        refine lv_bipush (v := 26) hx hb (zat zrX12_remembers_0_ok 30 rfl) (by decide) ?_
        refine lv_icmp_ge (tgt := 83) hx hb (zat zrX12_remembers_0_ok 31 rfl) (by decide) (fun c54 => ?_) (fun c54 => ?_)
        · have h := (if_pos c54).symm.trans h
          refine lv_aload_n hx hb (zat zrX12_remembers_0_ok 47 rfl) rfl (lv_at hl 1 rfl) ?_
          refine lv_dup hx hb (zat zrX12_remembers_0_ok 48 rfl) rfl ?_
          refine va_get (D := (dC, dI)) (ci := 9) (v := .int v51_m_h.2.2.1) (C := RX12) (T := TX12) (N := 30) hx hb hts ifX12_remembers_X12 hown hK hP 0 rfl rfl 19 (by decide) (hts (.fieldLink RX12 301 "HookPierModel" "acts" "I") (List.mem_of_getElem? (i := 1) rfl)) (fun _ h9 => h9) rfl (zat zrX12_remembers_0_ok 49 rfl) ?_
          refine lv_iconst (v := 1) hx hb (zat zrX12_remembers_0_ok 50 rfl) (by decide) ?_
          refine lv_iadd hx hb (zat zrX12_remembers_0_ok 51 rfl) ?_
          refine va_put (D := (dC, dI)) (ci := 9) (v := .int (v51_m_h.2.2.1 + (1 : Int32))) (ty := .int) (C := RX12) (T := TX12) (N := 30) hx hb hts ifX12_remembers_X12 tyX12 tyX12_ok nmX12 hown hK hP hD hS 0 rfl rfl 19 (by decide) (hts (.fieldLink RX12 301 "HookPierModel" "acts" "I") (List.mem_of_getElem? (i := 1) rfl)) (fun _ h9 => h9) rfl (by decide +kernel) rfl rfl (Nat.le_of_ble_eq_true rfl) (zat zrX12_remembers_0_ok 52 rfl) (fun H locs hP hD hS => ?_)
          obtain ⟨hP, hD⟩ := pd_mk ([(a0, .inr (9, [g6, g7, g8, g9, g10, g11, g12, g13, g14, g15, g16, g17, g18, g19, g20, .ref a1, g21, .ref a2, .ref a3, .int (v51_m_h.2.2.1 + (1 : Int32)), .int v51_m_h.2.2.2, g22, g23, g24, g25, g26, g27, g28, g29, g30])), (a1, .inl (cB31, 26, .inl m_v)), (a2, .inl (cB32, 416, .inl v51_m_h.1)), (a3, .inl (cB33, 78, .inl v51_m_h.2.1))]) hP hD
          obtain rfl := Option.some.inj h
          obtain ⟨hP9, hD9⟩ := pd_sub ([(a0, .inr (9, [g6, g7, g8, g9, g10, g11, g12, g13, g14, g15, g16, g17, g18, g19, g20, .ref a1, g21, .ref a2, .ref a3, .int (v51_m_h.2.2.1 + (1 : Int32)), .int v51_m_h.2.2.2, g22, g23, g24, g25, g26, g27, g28, g29, g30])), (a1, .inl (cB31, 26, .inl m_v)), (a2, .inl (cB32, 416, .inl v51_m_h.1)), (a3, .inl (cB33, 78, .inl v51_m_h.2.1))]) [0, 1, 2, 3] hP hD (by decide) rfl
          have hK9 := hK.sub (tys' := []) [] rfl
          rw [hQQ]
          exact W.vret hx hb hr (fun t ht hW => ⟨⟨(), rfl, trivial, by rw [ht]; exact hP9, va_K.moved hW.alike hK9, hD9⟩, hS.F ht⟩) hS.2.2 (zat zrX12_remembers_0_ok 53 rfl)
        · have h := (if_neg c54).symm.trans h
          refine lv_aload_n hx hb (zat zrX12_remembers_0_ok 32 rfl) rfl (lv_at hl 1 rfl) ?_
          refine va_get (D := (dC, dI)) (ci := 9) (v := .ref a2) (C := RX12) (T := TX12) (N := 30) hx hb hts ifX12_remembers_X12 hown hK hP 0 rfl rfl 17 (by decide) (hts (.fieldLink RX12 24 "HookPierModel" "past" "[I") (List.mem_of_getElem? (i := 2) rfl)) (fun _ h9 => h9) rfl (zat zrX12_remembers_0_ok 33 rfl) ?_
          refine lv_bipush (v := 26) hx hb (zat zrX12_remembers_0_ok 34 rfl) (by decide) ?_
          refine lv_aload_n hx hb (zat zrX12_remembers_0_ok 35 rfl) rfl (lv_at hl 1 rfl) ?_
          refine va_get (D := (dC, dI)) (ci := 9) (v := .int v51_m_h.2.2.1) (C := RX12) (T := TX12) (N := 30) hx hb hts ifX12_remembers_X12 hown hK hP 0 rfl rfl 19 (by decide) (hts (.fieldLink RX12 301 "HookPierModel" "acts" "I") (List.mem_of_getElem? (i := 1) rfl)) (fun _ h9 => h9) rfl (zat zrX12_remembers_0_ok 36 rfl) ?_
          refine lv_imul hx hb (zat zrX12_remembers_0_ok 37 rfl) ?_
          refine lv_iload_n hx hb (zat zrX12_remembers_0_ok 38 rfl) rfl (lv_at hl 0 rfl) ?_
          refine lv_iadd hx hb (zat zrX12_remembers_0_ok 39 rfl) ?_
          refine lv_aload_n hx hb (zat zrX12_remembers_0_ok 40 rfl) rfl (lv_at hl 1 rfl) ?_
          refine va_get (D := (dC, dI)) (ci := 9) (v := .ref a1) (C := RX12) (T := TX12) (N := 30) hx hb hts ifX12_remembers_X12 hown hK hP 0 rfl rfl 15 (by decide) (hts (.fieldLink RX12 17 "HookPierModel" "v" "[I") (List.mem_of_getElem? (i := 3) rfl)) (fun _ h9 => h9) rfl (zat zrX12_remembers_0_ok 41 rfl) ?_
          refine lv_iload_n hx hb (zat zrX12_remembers_0_ok 42 rfl) rfl (lv_at hl 0 rfl) ?_
          obtain ⟨hg75, h⟩ := gA_of h
          refine va_iald hx hb hK hP 1 0 rfl rfl hg75 (zat zrX12_remembers_0_ok 43 rfl) ?_
          obtain ⟨hg76, h⟩ := gA_of h
          refine va_iast hx hb hK hP hD hS 2 1 rfl rfl hg76 (zat zrX12_remembers_0_ok 44 rfl) (fun H locs hP hD hS => ?_)
          obtain ⟨hP, hD⟩ := pd_mk ([(a0, .inr (9, [g6, g7, g8, g9, g10, g11, g12, g13, g14, g15, g16, g17, g18, g19, g20, .ref a1, g21, .ref a2, .ref a3, .int v51_m_h.2.2.1, .int v51_m_h.2.2.2, g22, g23, g24, g25, g26, g27, g28, g29, g30])), (a1, .inl (cB31, 26, .inl m_v)), (a2, .inl (cB32, 416, .inl (upd v51_m_h.1 ((((26 : Int32) * v51_m_h.2.2.1) + v51_l1)).toNatClampNeg (m_v (v51_l1).toNatClampNeg)))), (a3, .inl (cB33, 78, .inl v51_m_h.2.1))]) hP hD
          refine lv_iinc (v := (v51_l1 + (1 : Int32))) (lv' := [(1, .int (v51_l1 + (1 : Int32))), (0, .ref a0)]) hx hb (zat zrX12_remembers_0_ok 45 rfl) hl (k := 0) rfl rfl (by decide) rfl (fun ls hl => ?_)
          refine lv_goto (tgt := 51) hx hb (zat zrX12_remembers_0_ok 46 rfl) (by decide) ?_
          exact ih51 (v51_l1 + (1 : Int32)) ((upd v51_m_h.1 ((((26 : Int32) * v51_m_h.2.2.1) + v51_l1)).toNatClampNeg (m_v (v51_l1).toNatClampNeg)), v51_m_h.2) H _ ls h  hP hD hS (lv_sub hl [0, 1] rfl)
    exact L51 FU (0 : Int32) v49_m_h H _ ls h  hP hD hS (lv_sub hl [0, 1] rfl)
  refine lv_icmp_ne (tgt := 49) hx hb (zat zrX12_remembers_0_ok 3 rfl) (by decide) (fun c6 => ?_) (fun c6 => ?_)
  · have h := (if_neg c6).symm.trans h
    exact J49 m_h s.heap _ ls h  hP hD hS (lv_sub hl [0] rfl)
  · have h := (if_pos c6).symm.trans h
    refine lv_iconst (v := 0) hx hb (zat zrX12_remembers_0_ok 4 rfl) (by decide) ?_
    refine lv_istore_n (lv' := [(1, .int 0), (0, .ref a0)]) hx hb (zat zrX12_remembers_0_ok 5 rfl) rfl hl (by decide) rfl (fun ls hl => ?_)
    have L11 : ∀ (n11 : Nat) (v11_l1 : Int32) (v11_m_h : TX12_h) (H : Heap) (locs : List Loc) (ls : Array Slot), f_X12_remembers_L11 m_v n11 v11_l1 v11_m_h = some out → va_P (dC, dI) vwCl ([(a0, .inr (9, [g6, g7, g8, g9, g10, g11, g12, g13, g14, g15, g16, g17, g18, g19, g20, .ref a1, g21, .ref a2, .ref a3, .int v11_m_h.2.2.1, .int v11_m_h.2.2.2, g22, g23, g24, g25, g26, g27, g28, g29, g30])), (a1, .inl (cB31, 26, .inl m_v)), (a2, .inl (cB32, 416, .inl v11_m_h.1)), (a3, .inl (cB33, 78, .inl v11_m_h.2.1))]) H → va_D A ([(a0, .inr (9, [g6, g7, g8, g9, g10, g11, g12, g13, g14, g15, g16, g17, g18, g19, g20, .ref a1, g21, .ref a2, .ref a3, .int v11_m_h.2.2.1, .int v11_m_h.2.2.2, g22, g23, g24, g25, g26, g27, g28, g29, g30])), (a1, .inl (cB31, 26, .inl m_v)), (a2, .inl (cB32, 416, .inl v11_m_h.1)), (a3, .inl (cB33, 78, .inl v11_m_h.2.1))]) → va_S A s.heap H locs → lv_has ls 2 [(1, .int v11_l1), (0, .ref a0)] → W p l e (headSpec vfX12_remembers { frames := 0, cells := 0, slots := 0, locals := 0 }).room s m ([.ref a0]).toArray below meth c H locs 0 0 QQ (F0 m 11 ls []) := by
      intro n11
      induction n11 with
      | zero =>
        intro v11_l1 v11_m_h H locs ls h  _ _ _ _
        rw [f_X12_remembers_L11] at h
        cases h
      | succ n11 ih11 =>
        intro v11_l1 v11_m_h H locs ls h  hP hD hS hl
        rw [f_X12_remembers_L11] at h
        refine lv_iload_n hx hb (zat zrX12_remembers_0_ok 6 rfl) rfl (lv_at hl 0 rfl) ?_
        refine lv_sipush (v := 390) hx hb (zat zrX12_remembers_0_ok 7 rfl) (by decide) ?_
        refine lv_icmp_ge (tgt := 39) hx hb (zat zrX12_remembers_0_ok 8 rfl) (by decide) (fun c15 => ?_) (fun c15 => ?_)
        · have h := (if_pos c15).symm.trans h
          refine lv_aload_n hx hb (zat zrX12_remembers_0_ok 21 rfl) rfl (lv_at hl 1 rfl) ?_
          refine lv_dup hx hb (zat zrX12_remembers_0_ok 22 rfl) rfl ?_
          refine va_get (D := (dC, dI)) (ci := 9) (v := .int v11_m_h.2.2.1) (C := RX12) (T := TX12) (N := 30) hx hb hts ifX12_remembers_X12 hown hK hP 0 rfl rfl 19 (by decide) (hts (.fieldLink RX12 301 "HookPierModel" "acts" "I") (List.mem_of_getElem? (i := 1) rfl)) (fun _ h9 => h9) rfl (zat zrX12_remembers_0_ok 23 rfl) ?_
          refine lv_iconst (v := 1) hx hb (zat zrX12_remembers_0_ok 24 rfl) (by decide) ?_
          refine lv_isub hx hb (zat zrX12_remembers_0_ok 25 rfl) ?_
          refine va_put (D := (dC, dI)) (ci := 9) (v := .int (v11_m_h.2.2.1 - (1 : Int32))) (ty := .int) (C := RX12) (T := TX12) (N := 30) hx hb hts ifX12_remembers_X12 tyX12 tyX12_ok nmX12 hown hK hP hD hS 0 rfl rfl 19 (by decide) (hts (.fieldLink RX12 301 "HookPierModel" "acts" "I") (List.mem_of_getElem? (i := 1) rfl)) (fun _ h9 => h9) rfl (by decide +kernel) rfl rfl (Nat.le_of_ble_eq_true rfl) (zat zrX12_remembers_0_ok 26 rfl) (fun H locs hP hD hS => ?_)
          obtain ⟨hP, hD⟩ := pd_mk ([(a0, .inr (9, [g6, g7, g8, g9, g10, g11, g12, g13, g14, g15, g16, g17, g18, g19, g20, .ref a1, g21, .ref a2, .ref a3, .int (v11_m_h.2.2.1 - (1 : Int32)), .int v11_m_h.2.2.2, g22, g23, g24, g25, g26, g27, g28, g29, g30])), (a1, .inl (cB31, 26, .inl m_v)), (a2, .inl (cB32, 416, .inl v11_m_h.1)), (a3, .inl (cB33, 78, .inl v11_m_h.2.1))]) hP hD
          exact J49 (v11_m_h.1, v11_m_h.2.1, (v11_m_h.2.2.1 - (1 : Int32)), v11_m_h.2.2.2) H _ ls h  hP hD hS (lv_sub hl [1] rfl)
        · have h := (if_neg c15).symm.trans h
          refine lv_aload_n hx hb (zat zrX12_remembers_0_ok 9 rfl) rfl (lv_at hl 1 rfl) ?_
          refine va_get (D := (dC, dI)) (ci := 9) (v := .ref a2) (C := RX12) (T := TX12) (N := 30) hx hb hts ifX12_remembers_X12 hown hK hP 0 rfl rfl 17 (by decide) (hts (.fieldLink RX12 24 "HookPierModel" "past" "[I") (List.mem_of_getElem? (i := 2) rfl)) (fun _ h9 => h9) rfl (zat zrX12_remembers_0_ok 10 rfl) ?_
          refine lv_iload_n hx hb (zat zrX12_remembers_0_ok 11 rfl) rfl (lv_at hl 0 rfl) ?_
          refine lv_aload_n hx hb (zat zrX12_remembers_0_ok 12 rfl) rfl (lv_at hl 1 rfl) ?_
          refine va_get (D := (dC, dI)) (ci := 9) (v := .ref a2) (C := RX12) (T := TX12) (N := 30) hx hb hts ifX12_remembers_X12 hown hK hP 0 rfl rfl 17 (by decide) (hts (.fieldLink RX12 24 "HookPierModel" "past" "[I") (List.mem_of_getElem? (i := 2) rfl)) (fun _ h9 => h9) rfl (zat zrX12_remembers_0_ok 13 rfl) ?_
          refine lv_iload_n hx hb (zat zrX12_remembers_0_ok 14 rfl) rfl (lv_at hl 0 rfl) ?_
          refine lv_bipush (v := 26) hx hb (zat zrX12_remembers_0_ok 15 rfl) (by decide) ?_
          refine lv_iadd hx hb (zat zrX12_remembers_0_ok 16 rfl) ?_
          obtain ⟨hg31, h⟩ := gA_of h
          refine va_iald hx hb hK hP 2 1 rfl rfl hg31 (zat zrX12_remembers_0_ok 17 rfl) ?_
          obtain ⟨hg32, h⟩ := gA_of h
          refine va_iast hx hb hK hP hD hS 2 1 rfl rfl hg32 (zat zrX12_remembers_0_ok 18 rfl) (fun H locs hP hD hS => ?_)
          obtain ⟨hP, hD⟩ := pd_mk ([(a0, .inr (9, [g6, g7, g8, g9, g10, g11, g12, g13, g14, g15, g16, g17, g18, g19, g20, .ref a1, g21, .ref a2, .ref a3, .int v11_m_h.2.2.1, .int v11_m_h.2.2.2, g22, g23, g24, g25, g26, g27, g28, g29, g30])), (a1, .inl (cB31, 26, .inl m_v)), (a2, .inl (cB32, 416, .inl (upd v11_m_h.1 (v11_l1).toNatClampNeg (v11_m_h.1 ((v11_l1 + (26 : Int32))).toNatClampNeg)))), (a3, .inl (cB33, 78, .inl v11_m_h.2.1))]) hP hD
          refine lv_iinc (v := (v11_l1 + (1 : Int32))) (lv' := [(1, .int (v11_l1 + (1 : Int32))), (0, .ref a0)]) hx hb (zat zrX12_remembers_0_ok 19 rfl) hl (k := 0) rfl rfl (by decide) rfl (fun ls hl => ?_)
          refine lv_goto (tgt := 11) hx hb (zat zrX12_remembers_0_ok 20 rfl) (by decide) ?_
          exact ih11 (v11_l1 + (1 : Int32)) ((upd v11_m_h.1 (v11_l1).toNatClampNeg (v11_m_h.1 ((v11_l1 + (26 : Int32))).toNatClampNeg)), v11_m_h.2) H _ ls h  hP hD hS (lv_sub hl [0, 1] rfl)
    exact L11 FU (0 : Int32) m_h s.heap _ ls h  hP hD hS (lv_sub hl [0, 1] rfl)
noncomputable def zrX12_question_0 : List ZR := zc 0 true (.iload_n 1) 1 (zc 1 true (.aload_n 0) 1 (zc 2 true (.getfield 299) 3 (zc 5 true (.getfield 207) 3 (zc 8 true (.imul) 1 (zc 9 true (.iload_n 2) 1 (zc 10 true (.iadd) 1 (zc 11 true (.iconst 1) 1 (zc 12 true (.isub) 1 (zc 13 true (.aload_n 0) 1 (zc 14 true (.getfield 299) 3 (zc 17 true (.getfield 175) 3 (zc 20 true (.imul) 1 (zc 21 true (.iload_n 3) 1 (zc 22 true (.iadd) 1 (zc 23 true (.ireturn) 1 ([]))))))))))))))))
theorem zrX12_question_0_ok : zck 0 ((zby cX12_question).drop 0) zrX12_question_0 = true := by decide +kernel
def vfX12_question : List Cond := List.cons (.code yX12_question cX12_question 4 (some .int)) (apW [.fieldLink RX12 299 "HookPierModel" "pier" "LHookPierModel$Pier;"] (apW wsX120 (wsX110)))
theorem ifX12_question_X12 : ∀ w ∈ wsX120, w ∈ vfX12_question := fun _ h => (List.mem_cons_of_mem _ (List.mem_append_right _ (List.mem_append_left _ h)))
theorem ifX12_question_X11 : ∀ w ∈ wsX110, w ∈ vfX12_question := fun _ h => (List.mem_cons_of_mem _ (List.mem_append_right _ (List.mem_append_right _ h)))
theorem qfX12_question : Good vfX12_question := gd_cons (by decide +kernel) (gd_app (gd_dec (by decide +kernel) : Good [.fieldLink RX12 299 "HookPierModel" "pier" "LHookPierModel$Pier;"]) (gd_app qsX12 qsX11))
set_option maxHeartbeats 2000000 in
set_option maxRecDepth 100000 in
theorem kfX12_question (l : Launch) (dC : Nat → ClassId) (dI : Nat → Nat → Nat) (a0 : Nat) (k1 : Int32) (k2 : Int32) (k3 : Int32) (a4 : Nat) (uq : Nat → Nat) (kq : Nat → ClassId) (g7 : Value) (g8 : Value) (g9 : Value) (g10 : Value) (g11 : Value) (g12 : Value) (g13 : Value) (g14 : Value) (g15 : Value) (g16 : Value) (g17 : Value) (g18 : Value) (g19 : Value) (g20 : Value) (g21 : Value) (g22 : Value) (g23 : Value) (g24 : Value) (g25 : Value) (g26 : Value) (g27 : Value) (g28 : Value) (g29 : Value) (g30 : Value) (g31 : Value) (g32 : Value) (g33 : Value) (g34 : Value) (g35 : Value) (q_q : TX11_q) (sz : Nat) (out : Int32) (h : f_X12_question k1 k2 k3 q_q = out) : KDi l yX12_question vfX12_question ({ frames := 0, cells := 0, slots := 0, locals := 0 }) (dC, dI) [.ref a0, .int k1, .int k2, .int k3] sz ((a0, .inr (9, [g7, g8, g9, .ref a4, g10, g11, g12, g13, g14, g15, g16, g17, g18, g19, g20, g21, g22, g23, g24, g25, g26, g27, g28, g29, g30, g31, g32, g33, g34, g35])) :: bX11 a4 uq kq q_q []) (tX11 kq ([])) (fun (r : Int32) _ => r = out) 0 0 := by
  refine Met.ofW (cc := cX12_question) (maxL := 4) (ret := (some .int)) (by decide) rfl ?_
  intro p e s m args below meth c s₁ B0 hml hv
  obtain ⟨rfl, hsz, hP, hK, hD0, hN⟩ := hv
  have hx := B0.exec
  have hb := B0.bytes
  have hr := B0.returns
  have hts := atoms_spec (ws := vfX12_question) B0.pre
  have hown : s.vm.findClass RX12 = some m.cls := findClass_of_methodNamed B0.named
  have hlocks := B0.notSynchronized
  subst hsz
  have hD := hD0.self (sz := s.heap.size)
  generalize hAe : va_A ((a0, .inr (9, [g7, g8, g9, .ref a4, g10, g11, g12, g13, g14, g15, g16, g17, g18, g19, g20, g21, g22, g23, g24, g25, g26, g27, g28, g29, g30, g31, g32, g33, g34, g35])) :: bX11 a4 uq kq q_q []) s.heap.size = A at hD ⊢
  have hA : ∀ q : Nat, s.heap.size ≤ q → A q := fun q h => by rw [← hAe]; exact Or.inr h
  have hS : va_S A s.heap s.heap [] := va_S.rf
  have hP : va_P (dC, dI) vwCl ((a0, .inr (9, [g7, g8, g9, .ref a4, g10, g11, g12, g13, g14, g15, g16, g17, g18, g19, g20, g21, g22, g23, g24, g25, g26, g27, g28, g29, g30, g31, g32, g33, g34, g35])) :: bX11 a4 uq kq q_q []) s.heap := hP
  have hl := lv_entry ([.ref a0, .int k1, .int k2, .int k3]) (n := 4) (Nat.le_of_ble_eq_true rfl)
  rw [lg_entry_eq]
  generalize (lg_sl ([.ref a0, .int k1, .int k2, .int k3]) ++ List.replicate (4 - (lg_sl ([.ref a0, .int k1, .int k2, .int k3])).length) Slot.unset).toArray = ls at hl ⊢
  have hl : lv_has ls 4 [(0, .ref a0), (1, .int k1), (2, .int k2), (3, .int k3)] := hl
  refine W_q (fun QQ hQQ => ?_)
  rw [f_X12_question] at h
  refine lv_iload_n hx hb (zat zrX12_question_0_ok 0 rfl) rfl (lv_at hl 1 rfl) ?_
  refine lv_aload_n hx hb (zat zrX12_question_0_ok 1 rfl) rfl (lv_at hl 0 rfl) ?_
  refine va_get (D := (dC, dI)) (ci := 9) (v := .ref a4) (C := RX12) (T := TX12) (N := 30) hx hb hts ifX12_question_X12 hown hK hP 0 rfl rfl 3 (by decide) (hts (.fieldLink RX12 299 "HookPierModel" "pier" "LHookPierModel$Pier;") (List.mem_of_getElem? (i := 1) rfl)) (fun _ h9 => h9) rfl (zat zrX12_question_0_ok 2 rfl) ?_
  refine va_getN (D := (dC, dI)) (ci := 8) (v := .int q_q.2.1) (C := RX11) (T := TX11) (N := 24) hx hb hts ifX12_question_X11 hown hK hP 1 rfl rfl 1 (by decide) (va_Nw.use rfl (hN.1 (.fieldLinkNest RX12 207 "HookPierModel$Pier" "deep" "I" "HookPierModel") (List.mem_of_getElem? (i := 23) rfl))) (fun _ h9 => h9) rfl (zat zrX12_question_0_ok 3 rfl) ?_
  refine lv_imul hx hb (zat zrX12_question_0_ok 4 rfl) ?_
  refine lv_iload_n hx hb (zat zrX12_question_0_ok 5 rfl) rfl (lv_at hl 2 rfl) ?_
  refine lv_iadd hx hb (zat zrX12_question_0_ok 6 rfl) ?_
  refine lv_iconst (v := 1) hx hb (zat zrX12_question_0_ok 7 rfl) (by decide) ?_
  refine lv_isub hx hb (zat zrX12_question_0_ok 8 rfl) ?_
  refine lv_aload_n hx hb (zat zrX12_question_0_ok 9 rfl) rfl (lv_at hl 0 rfl) ?_
  refine va_get (D := (dC, dI)) (ci := 9) (v := .ref a4) (C := RX12) (T := TX12) (N := 30) hx hb hts ifX12_question_X12 hown hK hP 0 rfl rfl 3 (by decide) (hts (.fieldLink RX12 299 "HookPierModel" "pier" "LHookPierModel$Pier;") (List.mem_of_getElem? (i := 1) rfl)) (fun _ h9 => h9) rfl (zat zrX12_question_0_ok 10 rfl) ?_
  refine va_getN (D := (dC, dI)) (ci := 8) (v := .int q_q.2.2.2.2.1) (C := RX11) (T := TX11) (N := 24) hx hb hts ifX12_question_X11 hown hK hP 1 rfl rfl 4 (by decide) (va_Nw.use rfl (hN.1 (.fieldLinkNest RX12 175 "HookPierModel$Pier" "baits" "I" "HookPierModel") (List.mem_of_getElem? (i := 26) rfl))) (fun _ h9 => h9) rfl (zat zrX12_question_0_ok 11 rfl) ?_
  refine lv_imul hx hb (zat zrX12_question_0_ok 12 rfl) ?_
  refine lv_iload_n hx hb (zat zrX12_question_0_ok 13 rfl) rfl (lv_at hl 3 rfl) ?_
  refine lv_iadd hx hb (zat zrX12_question_0_ok 14 rfl) ?_
  refine lv_topi (fun z22 ez22 => ?_)
  have h := nm_of h z22 ez22
  obtain rfl := h
  obtain ⟨hP9, hD9⟩ := pd_sub ((a0, .inr (9, [g7, g8, g9, .ref a4, g10, g11, g12, g13, g14, g15, g16, g17, g18, g19, g20, g21, g22, g23, g24, g25, g26, g27, g28, g29, g30, g31, g32, g33, g34, g35])) :: bX11 a4 uq kq q_q []) [0, 1, 2, 3, 4, 5, 6, 7, 8, 9, 10, 11, 12, 13, 14, 15] hP hD (by decide) rfl
  have hK9 := hK.sub (tys' := []) [] rfl
  rw [hQQ]
  exact W.iret (v := z22) hx hb hr (fun t ht hW => ⟨⟨z22, (), rfl, rfl, by rw [ht]; exact hP9, va_K.moved hW.alike hK9, hD9⟩, hS.F ht⟩) hS.2.2 (zat zrX12_question_0_ok 15 rfl)
noncomputable def zrX12_good_0 : List ZR := zc 0 true (.aload_n 0) 1 (zc 1 true (.iconst 0) 1 (zc 2 true (.putfield 39) 3 (zc 5 true (.aload_n 0) 1 (zc 6 true (.iconst (-1)) 1 (zc 7 true (.putfield 9) 3 (zc 10 true (.iload_n 1) 1 (zc 11 true (.ireturn) 1 ([]))))))))
theorem zrX12_good_0_ok : zck 0 ((zby cX12_good).drop 0) zrX12_good_0 = true := by decide +kernel
def vfX12_good : List Cond := List.cons (.code yX12_good cX12_good 2 (some .int)) (apW [.fieldLink RX12 39 "HookPierModel" "trouble" "I", .fieldLink RX12 9 "HookPierModel" "where" "I"] (wsX120))
theorem ifX12_good_X12 : ∀ w ∈ wsX120, w ∈ vfX12_good := fun _ h => (List.mem_cons_of_mem _ (List.mem_append_right _ h))
theorem qfX12_good : Good vfX12_good := gd_cons (by decide +kernel) (gd_app (gd_dec (by decide +kernel) : Good [.fieldLink RX12 39 "HookPierModel" "trouble" "I", .fieldLink RX12 9 "HookPierModel" "where" "I"]) qsX12)
set_option maxHeartbeats 2000000 in
set_option maxRecDepth 100000 in
theorem kfX12_good (l : Launch) (dC : Nat → ClassId) (dI : Nat → Nat → Nat) (a0 : Nat) (k1 : Int32) (m_t : TX12_t) (g3 : Value) (g4 : Value) (g5 : Value) (g6 : Value) (g7 : Value) (g8 : Value) (g9 : Value) (g10 : Value) (g11 : Value) (g12 : Value) (g13 : Value) (g14 : Value) (g15 : Value) (g16 : Value) (g17 : Value) (g18 : Value) (g19 : Value) (g20 : Value) (g21 : Value) (g22 : Value) (g23 : Value) (g24 : Value) (g25 : Value) (g26 : Value) (g27 : Value) (g28 : Value) (g29 : Value) (sz : Nat) (out : (Int32 × TX12_t)) (h : f_X12_good k1 m_t = out) : KCi l yX12_good vfX12_good ({ frames := 0, cells := 0, slots := 0, locals := 0 }) (dC, dI) [.ref a0, .int k1] sz ([(a0, .inr (9, [.int m_t.1, .int m_t.2.1, .int m_t.2.2, g3, g4, g5, g6, g7, g8, g9, g10, g11, g12, g13, g14, g15, g16, g17, g18, g19, g20, g21, g22, g23, g24, g25, g26, g27, g28, g29]))]) ([]) (fun (r : Int32) _ => r = out.1) ([(a0, .inr (9, [.int out.2.1, .int out.2.2.1, .int out.2.2.2, g3, g4, g5, g6, g7, g8, g9, g10, g11, g12, g13, g14, g15, g16, g17, g18, g19, g20, g21, g22, g23, g24, g25, g26, g27, g28, g29]))]) 0 0 := by
  refine Met.ofW (cc := cX12_good) (maxL := 2) (ret := (some .int)) (by decide) rfl ?_
  intro p e s m args below meth c s₁ B0 hml hv
  obtain ⟨rfl, hsz, hP, hK, hD0, hN⟩ := hv
  have hx := B0.exec
  have hb := B0.bytes
  have hr := B0.returns
  have hts := atoms_spec (ws := vfX12_good) B0.pre
  have hown : s.vm.findClass RX12 = some m.cls := findClass_of_methodNamed B0.named
  have hlocks := B0.notSynchronized
  subst hsz
  have hD := hD0.self (sz := s.heap.size)
  generalize hAe : va_A ([(a0, .inr (9, [.int m_t.1, .int m_t.2.1, .int m_t.2.2, g3, g4, g5, g6, g7, g8, g9, g10, g11, g12, g13, g14, g15, g16, g17, g18, g19, g20, g21, g22, g23, g24, g25, g26, g27, g28, g29]))]) s.heap.size = A at hD ⊢
  have hA : ∀ q : Nat, s.heap.size ≤ q → A q := fun q h => by rw [← hAe]; exact Or.inr h
  have hS : va_S A s.heap s.heap [] := va_S.rf
  have hP : va_P (dC, dI) vwCl ([(a0, .inr (9, [.int m_t.1, .int m_t.2.1, .int m_t.2.2, g3, g4, g5, g6, g7, g8, g9, g10, g11, g12, g13, g14, g15, g16, g17, g18, g19, g20, g21, g22, g23, g24, g25, g26, g27, g28, g29]))]) s.heap := hP
  have hl := lv_entry ([.ref a0, .int k1]) (n := 2) (Nat.le_of_ble_eq_true rfl)
  rw [lg_entry_eq]
  generalize (lg_sl ([.ref a0, .int k1]) ++ List.replicate (2 - (lg_sl ([.ref a0, .int k1])).length) Slot.unset).toArray = ls at hl ⊢
  have hl : lv_has ls 2 [(0, .ref a0), (1, .int k1)] := hl
  refine W_q (fun QQ hQQ => ?_)
  rw [f_X12_good] at h
  refine lv_aload_n hx hb (zat zrX12_good_0_ok 0 rfl) rfl (lv_at hl 0 rfl) ?_
  refine lv_iconst (v := 0) hx hb (zat zrX12_good_0_ok 1 rfl) (by decide) ?_
  refine va_put (D := (dC, dI)) (ci := 9) (v := .int 0) (ty := .int) (C := RX12) (T := TX12) (N := 30) hx hb hts ifX12_good_X12 tyX12 tyX12_ok nmX12 hown hK hP hD hS 0 rfl rfl 1 (by decide) (hts (.fieldLink RX12 39 "HookPierModel" "trouble" "I") (List.mem_of_getElem? (i := 1) rfl)) (fun _ h9 => h9) rfl (by decide +kernel) rfl rfl (Nat.le_of_ble_eq_true rfl) (zat zrX12_good_0_ok 2 rfl) (fun H locs hP hD hS => ?_)
  obtain ⟨hP, hD⟩ := pd_mk ([(a0, .inr (9, [.int m_t.1, .int 0, .int m_t.2.2, g3, g4, g5, g6, g7, g8, g9, g10, g11, g12, g13, g14, g15, g16, g17, g18, g19, g20, g21, g22, g23, g24, g25, g26, g27, g28, g29]))]) hP hD
  refine lv_aload_n hx hb (zat zrX12_good_0_ok 3 rfl) rfl (lv_at hl 0 rfl) ?_
  refine lv_iconst (v := (-1)) hx hb (zat zrX12_good_0_ok 4 rfl) (by decide) ?_
  refine va_put (D := (dC, dI)) (ci := 9) (v := .int (-1)) (ty := .int) (C := RX12) (T := TX12) (N := 30) hx hb hts ifX12_good_X12 tyX12 tyX12_ok nmX12 hown hK hP hD hS 0 rfl rfl 2 (by decide) (hts (.fieldLink RX12 9 "HookPierModel" "where" "I") (List.mem_of_getElem? (i := 2) rfl)) (fun _ h9 => h9) rfl (by decide +kernel) rfl rfl (Nat.le_of_ble_eq_true rfl) (zat zrX12_good_0_ok 5 rfl) (fun H locs hP hD hS => ?_)
  obtain ⟨hP, hD⟩ := pd_mk ([(a0, .inr (9, [.int m_t.1, .int 0, .int (-1), g3, g4, g5, g6, g7, g8, g9, g10, g11, g12, g13, g14, g15, g16, g17, g18, g19, g20, g21, g22, g23, g24, g25, g26, g27, g28, g29]))]) hP hD
  refine lv_iload_n hx hb (zat zrX12_good_0_ok 6 rfl) rfl (lv_at hl 1 rfl) ?_
  obtain rfl := h
  obtain ⟨hP9, hD9⟩ := pd_sub ([(a0, .inr (9, [.int m_t.1, .int 0, .int (-1), g3, g4, g5, g6, g7, g8, g9, g10, g11, g12, g13, g14, g15, g16, g17, g18, g19, g20, g21, g22, g23, g24, g25, g26, g27, g28, g29]))]) [0] hP hD (by decide) rfl
  have hK9 := hK.sub (tys' := []) [] rfl
  rw [hQQ]
  exact W.iret (v := k1) hx hb hr (fun t ht hW => ⟨⟨k1, (), rfl, rfl, by rw [ht]; exact hP9, va_K.moved hW.alike hK9, hD9⟩, hS.F ht⟩) hS.2.2 (zat zrX12_good_0_ok 7 rfl)
noncomputable def zrX12_granted_0 : List ZR := zc 0 true (.aload_n 0) 1 (zc 1 true (.iconst 0) 1 (zc 2 true (.invokevirtual 46) 3 (zc 5 true (.pop) 1 (zc 6 true (.iconst 1) 1 (zc 7 true (.ireturn) 1 ([]))))))
theorem zrX12_granted_0_ok : zck 0 ((zby cX12_granted).drop 0) zrX12_granted_0 = true := by decide +kernel
def vfX12_granted : List Cond := List.cons (.code yX12_granted cX12_granted 1 (some .boolean)) (apW [.methodLink RX12 46 yX12_good, .instanceMethod yX12_good, .selects RX12 yX12_good yX12_good, .initialized RX12] (vfX12_good))
theorem qfX12_granted : Good vfX12_granted := gd_cons (by decide +kernel) (gd_app (gd_dec (by decide +kernel) : Good [.methodLink RX12 46 yX12_good, .instanceMethod yX12_good, .selects RX12 yX12_good yX12_good, .initialized RX12]) qfX12_good)
theorem gfX12_granted_0 : GoodIn vfX12_granted (wsV RX12 46 RX12 yX12_good vfX12_good) := goodIn_app (goodIn_r [.methodLink RX12 46 yX12_good, .instanceMethod yX12_good, .selects RX12 yX12_good yX12_good, .initialized RX12] [1, 2, 3, 4] rfl (by decide +kernel)) (goodIn_m (fun _ h => (List.mem_cons_of_mem _ (List.mem_append_right _ h))) qfX12_good)
set_option maxHeartbeats 2000000 in
set_option maxRecDepth 100000 in
theorem kfX12_granted (l : Launch) (dC : Nat → ClassId) (dI : Nat → Nat → Nat) (a0 : Nat) (m_t : TX12_t) (g2 : Value) (g3 : Value) (g4 : Value) (g5 : Value) (g6 : Value) (g7 : Value) (g8 : Value) (g9 : Value) (g10 : Value) (g11 : Value) (g12 : Value) (g13 : Value) (g14 : Value) (g15 : Value) (g16 : Value) (g17 : Value) (g18 : Value) (g19 : Value) (g20 : Value) (g21 : Value) (g22 : Value) (g23 : Value) (g24 : Value) (g25 : Value) (g26 : Value) (g27 : Value) (g28 : Value) (sz : Nat) (out : TX12_t) (h : f_X12_granted m_t = out) : KCi l yX12_granted vfX12_granted ({ frames := 1, cells := 0, slots := 0, locals := 21 }) (dC, dI) [.ref a0] sz ([(a0, .inr (9, [.int m_t.1, .int m_t.2.1, .int m_t.2.2, g2, g3, g4, g5, g6, g7, g8, g9, g10, g11, g12, g13, g14, g15, g16, g17, g18, g19, g20, g21, g22, g23, g24, g25, g26, g27, g28]))]) ([]) (fun (r : Int32) _ => r = 1 ∧ (0 ≤ r.toInt ∧ r.toInt ≤ 1)) ([(a0, .inr (9, [.int out.1, .int out.2.1, .int out.2.2, g2, g3, g4, g5, g6, g7, g8, g9, g10, g11, g12, g13, g14, g15, g16, g17, g18, g19, g20, g21, g22, g23, g24, g25, g26, g27, g28]))]) 0 0 := by
  refine Met.ofW (cc := cX12_granted) (maxL := 1) (ret := (some .boolean)) (by decide) rfl ?_
  intro p e s m args below meth c s₁ B0 hml hv
  obtain ⟨rfl, hsz, hP, hK, hD0, hN⟩ := hv
  have hx := B0.exec
  have hb := B0.bytes
  have hr := B0.returns
  have hts := atoms_spec (ws := vfX12_granted) B0.pre
  have hown : s.vm.findClass RX12 = some m.cls := findClass_of_methodNamed B0.named
  have hlocks := B0.notSynchronized
  subst hsz
  have hD := hD0.self (sz := s.heap.size)
  generalize hAe : va_A ([(a0, .inr (9, [.int m_t.1, .int m_t.2.1, .int m_t.2.2, g2, g3, g4, g5, g6, g7, g8, g9, g10, g11, g12, g13, g14, g15, g16, g17, g18, g19, g20, g21, g22, g23, g24, g25, g26, g27, g28]))]) s.heap.size = A at hD ⊢
  have hA : ∀ q : Nat, s.heap.size ≤ q → A q := fun q h => by rw [← hAe]; exact Or.inr h
  have hS : va_S A s.heap s.heap [] := va_S.rf
  have hP : va_P (dC, dI) vwCl ([(a0, .inr (9, [.int m_t.1, .int m_t.2.1, .int m_t.2.2, g2, g3, g4, g5, g6, g7, g8, g9, g10, g11, g12, g13, g14, g15, g16, g17, g18, g19, g20, g21, g22, g23, g24, g25, g26, g27, g28]))]) s.heap := hP
  have hl := lv_entry ([.ref a0]) (n := 1) (Nat.le_of_ble_eq_true rfl)
  rw [lg_entry_eq]
  generalize (lg_sl ([.ref a0]) ++ List.replicate (1 - (lg_sl ([.ref a0])).length) Slot.unset).toArray = ls at hl ⊢
  have hl : lv_has ls 1 [(0, .ref a0)] := hl
  refine W_q (fun QQ hQQ => ?_)
  rw [f_X12_granted] at h
  refine lv_aload_n hx hb (zat zrX12_granted_0_ok 0 rfl) rfl (lv_at hl 0 rfl) ?_
  refine lv_iconst (v := 0) hx hb (zat zrX12_granted_0_ok 1 rfl) (by decide) ?_
  obtain ⟨o2, eo2⟩ : ∃ o, o = f_X12_good (0 : Int32) m_t := ⟨_, rfl⟩
  have h := nm_of h o2 eo2
  refine ck_i (wc := ([(a0, .inr (9, [.int m_t.1, .int m_t.2.1, .int m_t.2.2, g2, g3, g4, g5, g6, g7, g8, g9, g10, g11, g12, g13, g14, g15, g16, g17, g18, g19, g20, g21, g22, g23, g24, g25, g26, g27, g28]))])) (wr := []) hP hD hK hS hA [0] [] rfl rfl (by decide) (by decide) (by decide) (fun hPc hDc => (va_runV (As := [.int 0]) (rest := []) ⟨hx, hb, hml, hown, hts⟩ (kfX12_good l dC dI a0 (0 : Int32) m_t (g2) (g3) (g4) (g5) (g6) (g7) (g8) (g9) (g10) (g11) (g12) (g13) (g14) (g15) (g16) (g17) (g18) (g19) (g20) (g21) (g22) (g23) (g24) (g25) (g26) (g27) (g28) s.heap.size o2 eo2.symm) (cwV 1 hts gfX12_granted_0 rfl rfl rfl (by decide +kernel) ⟨(Nat.le_of_ble_eq_true rfl), (Nat.le_of_ble_eq_true rfl)⟩) (PV hPc (hK.sub (tys' := ([])) [] rfl) hDc hN 0 rfl rfl) rfl rfl hl.1 rfl (lv_room (Nat.le_of_ble_eq_true rfl)) (zat zrX12_granted_0_ok 2 rfl) ⟨(Nat.le_of_ble_eq_true rfl), (Nat.le_of_ble_eq_true rfl)⟩)) (fun r2 _ H locs hw hP hD _ hS => ?_)
  obtain rfl := hw
  obtain ⟨hP, hD⟩ := pd_mk ([(a0, .inr (9, [.int o2.2.1, .int o2.2.2.1, .int o2.2.2.2, g2, g3, g4, g5, g6, g7, g8, g9, g10, g11, g12, g13, g14, g15, g16, g17, g18, g19, g20, g21, g22, g23, g24, g25, g26, g27, g28]))]) hP hD
  refine lv_pop hx hb (zat zrX12_granted_0_ok 3 rfl) rfl ?_
  refine lv_iconst (v := 1) hx hb (zat zrX12_granted_0_ok 4 rfl) (by decide) ?_
  obtain rfl := h
  obtain ⟨hP9, hD9⟩ := pd_sub ([(a0, .inr (9, [.int o2.2.1, .int o2.2.2.1, .int o2.2.2.2, g2, g3, g4, g5, g6, g7, g8, g9, g10, g11, g12, g13, g14, g15, g16, g17, g18, g19, g20, g21, g22, g23, g24, g25, g26, g27, g28]))]) [0] hP hD (by decide) rfl
  have hK9 := hK.sub (tys' := []) [] rfl
  rw [hQQ]
  exact W.zret (v := (1 : Int32)) hx hb hr rfl (fun t ht hW => ⟨⟨(1 : Int32), (), rfl, ⟨rfl, (by decide)⟩, by rw [ht]; exact hP9, va_K.moved hW.alike hK9, hD9⟩, hS.F ht⟩) hS.2.2 (zat zrX12_granted_0_ok 5 rfl)
noncomputable def zrX12_refused_0 : List ZR := zc 0 true (.aload_n 0) 1 (zc 1 true (.iload_n 1) 1 (zc 2 true (.putfield 39) 3 (zc 5 true (.aload_n 0) 1 (zc 6 true (.iconst (-1)) 1 (zc 7 true (.putfield 9) 3 (zc 10 true (.iconst (-1)) 1 (zc 11 true (.ireturn) 1 ([]))))))))
theorem zrX12_refused_0_ok : zck 0 ((zby cX12_refused).drop 0) zrX12_refused_0 = true := by decide +kernel
def vfX12_refused : List Cond := List.cons (.code yX12_refused cX12_refused 2 (some .int)) (apW [.fieldLink RX12 39 "HookPierModel" "trouble" "I", .fieldLink RX12 9 "HookPierModel" "where" "I"] (wsX120))
theorem ifX12_refused_X12 : ∀ w ∈ wsX120, w ∈ vfX12_refused := fun _ h => (List.mem_cons_of_mem _ (List.mem_append_right _ h))
theorem qfX12_refused : Good vfX12_refused := gd_cons (by decide +kernel) (gd_app (gd_dec (by decide +kernel) : Good [.fieldLink RX12 39 "HookPierModel" "trouble" "I", .fieldLink RX12 9 "HookPierModel" "where" "I"]) qsX12)
set_option maxHeartbeats 2000000 in
set_option maxRecDepth 100000 in
theorem kfX12_refused (l : Launch) (dC : Nat → ClassId) (dI : Nat → Nat → Nat) (a0 : Nat) (k1 : Int32) (m_t : TX12_t) (g3 : Value) (g4 : Value) (g5 : Value) (g6 : Value) (g7 : Value) (g8 : Value) (g9 : Value) (g10 : Value) (g11 : Value) (g12 : Value) (g13 : Value) (g14 : Value) (g15 : Value) (g16 : Value) (g17 : Value) (g18 : Value) (g19 : Value) (g20 : Value) (g21 : Value) (g22 : Value) (g23 : Value) (g24 : Value) (g25 : Value) (g26 : Value) (g27 : Value) (g28 : Value) (g29 : Value) (sz : Nat) (out : TX12_t) (h : f_X12_refused k1 m_t = out) : KCi l yX12_refused vfX12_refused ({ frames := 0, cells := 0, slots := 0, locals := 0 }) (dC, dI) [.ref a0, .int k1] sz ([(a0, .inr (9, [.int m_t.1, .int m_t.2.1, .int m_t.2.2, g3, g4, g5, g6, g7, g8, g9, g10, g11, g12, g13, g14, g15, g16, g17, g18, g19, g20, g21, g22, g23, g24, g25, g26, g27, g28, g29]))]) ([]) (fun (r : Int32) _ => r = (-1)) ([(a0, .inr (9, [.int out.1, .int out.2.1, .int out.2.2, g3, g4, g5, g6, g7, g8, g9, g10, g11, g12, g13, g14, g15, g16, g17, g18, g19, g20, g21, g22, g23, g24, g25, g26, g27, g28, g29]))]) 0 0 := by
  refine Met.ofW (cc := cX12_refused) (maxL := 2) (ret := (some .int)) (by decide) rfl ?_
  intro p e s m args below meth c s₁ B0 hml hv
  obtain ⟨rfl, hsz, hP, hK, hD0, hN⟩ := hv
  have hx := B0.exec
  have hb := B0.bytes
  have hr := B0.returns
  have hts := atoms_spec (ws := vfX12_refused) B0.pre
  have hown : s.vm.findClass RX12 = some m.cls := findClass_of_methodNamed B0.named
  have hlocks := B0.notSynchronized
  subst hsz
  have hD := hD0.self (sz := s.heap.size)
  generalize hAe : va_A ([(a0, .inr (9, [.int m_t.1, .int m_t.2.1, .int m_t.2.2, g3, g4, g5, g6, g7, g8, g9, g10, g11, g12, g13, g14, g15, g16, g17, g18, g19, g20, g21, g22, g23, g24, g25, g26, g27, g28, g29]))]) s.heap.size = A at hD ⊢
  have hA : ∀ q : Nat, s.heap.size ≤ q → A q := fun q h => by rw [← hAe]; exact Or.inr h
  have hS : va_S A s.heap s.heap [] := va_S.rf
  have hP : va_P (dC, dI) vwCl ([(a0, .inr (9, [.int m_t.1, .int m_t.2.1, .int m_t.2.2, g3, g4, g5, g6, g7, g8, g9, g10, g11, g12, g13, g14, g15, g16, g17, g18, g19, g20, g21, g22, g23, g24, g25, g26, g27, g28, g29]))]) s.heap := hP
  have hl := lv_entry ([.ref a0, .int k1]) (n := 2) (Nat.le_of_ble_eq_true rfl)
  rw [lg_entry_eq]
  generalize (lg_sl ([.ref a0, .int k1]) ++ List.replicate (2 - (lg_sl ([.ref a0, .int k1])).length) Slot.unset).toArray = ls at hl ⊢
  have hl : lv_has ls 2 [(0, .ref a0), (1, .int k1)] := hl
  refine W_q (fun QQ hQQ => ?_)
  rw [f_X12_refused] at h
  refine lv_aload_n hx hb (zat zrX12_refused_0_ok 0 rfl) rfl (lv_at hl 0 rfl) ?_
  refine lv_iload_n hx hb (zat zrX12_refused_0_ok 1 rfl) rfl (lv_at hl 1 rfl) ?_
  refine va_put (D := (dC, dI)) (ci := 9) (v := .int k1) (ty := .int) (C := RX12) (T := TX12) (N := 30) hx hb hts ifX12_refused_X12 tyX12 tyX12_ok nmX12 hown hK hP hD hS 0 rfl rfl 1 (by decide) (hts (.fieldLink RX12 39 "HookPierModel" "trouble" "I") (List.mem_of_getElem? (i := 1) rfl)) (fun _ h9 => h9) rfl (by decide +kernel) rfl rfl (Nat.le_of_ble_eq_true rfl) (zat zrX12_refused_0_ok 2 rfl) (fun H locs hP hD hS => ?_)
  obtain ⟨hP, hD⟩ := pd_mk ([(a0, .inr (9, [.int m_t.1, .int k1, .int m_t.2.2, g3, g4, g5, g6, g7, g8, g9, g10, g11, g12, g13, g14, g15, g16, g17, g18, g19, g20, g21, g22, g23, g24, g25, g26, g27, g28, g29]))]) hP hD
  refine lv_aload_n hx hb (zat zrX12_refused_0_ok 3 rfl) rfl (lv_at hl 0 rfl) ?_
  refine lv_iconst (v := (-1)) hx hb (zat zrX12_refused_0_ok 4 rfl) (by decide) ?_
  refine va_put (D := (dC, dI)) (ci := 9) (v := .int (-1)) (ty := .int) (C := RX12) (T := TX12) (N := 30) hx hb hts ifX12_refused_X12 tyX12 tyX12_ok nmX12 hown hK hP hD hS 0 rfl rfl 2 (by decide) (hts (.fieldLink RX12 9 "HookPierModel" "where" "I") (List.mem_of_getElem? (i := 2) rfl)) (fun _ h9 => h9) rfl (by decide +kernel) rfl rfl (Nat.le_of_ble_eq_true rfl) (zat zrX12_refused_0_ok 5 rfl) (fun H locs hP hD hS => ?_)
  obtain ⟨hP, hD⟩ := pd_mk ([(a0, .inr (9, [.int m_t.1, .int k1, .int (-1), g3, g4, g5, g6, g7, g8, g9, g10, g11, g12, g13, g14, g15, g16, g17, g18, g19, g20, g21, g22, g23, g24, g25, g26, g27, g28, g29]))]) hP hD
  refine lv_iconst (v := (-1)) hx hb (zat zrX12_refused_0_ok 6 rfl) (by decide) ?_
  obtain rfl := h
  obtain ⟨hP9, hD9⟩ := pd_sub ([(a0, .inr (9, [.int m_t.1, .int k1, .int (-1), g3, g4, g5, g6, g7, g8, g9, g10, g11, g12, g13, g14, g15, g16, g17, g18, g19, g20, g21, g22, g23, g24, g25, g26, g27, g28, g29]))]) [0] hP hD (by decide) rfl
  have hK9 := hK.sub (tys' := []) [] rfl
  rw [hQQ]
  exact W.iret (v := (-1 : Int32)) hx hb hr (fun t ht hW => ⟨⟨(-1 : Int32), (), rfl, rfl, by rw [ht]; exact hP9, va_K.moved hW.alike hK9, hD9⟩, hS.F ht⟩) hS.2.2 (zat zrX12_refused_0_ok 7 rfl)
noncomputable def zrX12_denied_0 : List ZR := zc 0 true (.aload_n 0) 1 (zc 1 true (.iload_n 1) 1 (zc 2 true (.invokevirtual 42) 3 (zc 5 true (.pop) 1 (zc 6 true (.iconst 0) 1 (zc 7 true (.ireturn) 1 ([]))))))
theorem zrX12_denied_0_ok : zck 0 ((zby cX12_denied).drop 0) zrX12_denied_0 = true := by decide +kernel
def vfX12_denied : List Cond := List.cons (.code yX12_denied cX12_denied 2 (some .boolean)) (apW [.methodLink RX12 42 yX12_refused, .instanceMethod yX12_refused, .selects RX12 yX12_refused yX12_refused, .initialized RX12] (vfX12_refused))
theorem qfX12_denied : Good vfX12_denied := gd_cons (by decide +kernel) (gd_app (gd_dec (by decide +kernel) : Good [.methodLink RX12 42 yX12_refused, .instanceMethod yX12_refused, .selects RX12 yX12_refused yX12_refused, .initialized RX12]) qfX12_refused)
theorem gfX12_denied_0 : GoodIn vfX12_denied (wsV RX12 42 RX12 yX12_refused vfX12_refused) := goodIn_app (goodIn_r [.methodLink RX12 42 yX12_refused, .instanceMethod yX12_refused, .selects RX12 yX12_refused yX12_refused, .initialized RX12] [1, 2, 3, 4] rfl (by decide +kernel)) (goodIn_m (fun _ h => (List.mem_cons_of_mem _ (List.mem_append_right _ h))) qfX12_refused)
set_option maxHeartbeats 2000000 in
set_option maxRecDepth 100000 in
theorem kfX12_denied (l : Launch) (dC : Nat → ClassId) (dI : Nat → Nat → Nat) (a0 : Nat) (k1 : Int32) (m_t : TX12_t) (g3 : Value) (g4 : Value) (g5 : Value) (g6 : Value) (g7 : Value) (g8 : Value) (g9 : Value) (g10 : Value) (g11 : Value) (g12 : Value) (g13 : Value) (g14 : Value) (g15 : Value) (g16 : Value) (g17 : Value) (g18 : Value) (g19 : Value) (g20 : Value) (g21 : Value) (g22 : Value) (g23 : Value) (g24 : Value) (g25 : Value) (g26 : Value) (g27 : Value) (g28 : Value) (g29 : Value) (sz : Nat) (out : TX12_t) (h : f_X12_denied k1 m_t = out) : KCi l yX12_denied vfX12_denied ({ frames := 1, cells := 0, slots := 0, locals := 21 }) (dC, dI) [.ref a0, .int k1] sz ([(a0, .inr (9, [.int m_t.1, .int m_t.2.1, .int m_t.2.2, g3, g4, g5, g6, g7, g8, g9, g10, g11, g12, g13, g14, g15, g16, g17, g18, g19, g20, g21, g22, g23, g24, g25, g26, g27, g28, g29]))]) ([]) (fun (r : Int32) _ => r = 0 ∧ (0 ≤ r.toInt ∧ r.toInt ≤ 1)) ([(a0, .inr (9, [.int out.1, .int out.2.1, .int out.2.2, g3, g4, g5, g6, g7, g8, g9, g10, g11, g12, g13, g14, g15, g16, g17, g18, g19, g20, g21, g22, g23, g24, g25, g26, g27, g28, g29]))]) 0 0 := by
  refine Met.ofW (cc := cX12_denied) (maxL := 2) (ret := (some .boolean)) (by decide) rfl ?_
  intro p e s m args below meth c s₁ B0 hml hv
  obtain ⟨rfl, hsz, hP, hK, hD0, hN⟩ := hv
  have hx := B0.exec
  have hb := B0.bytes
  have hr := B0.returns
  have hts := atoms_spec (ws := vfX12_denied) B0.pre
  have hown : s.vm.findClass RX12 = some m.cls := findClass_of_methodNamed B0.named
  have hlocks := B0.notSynchronized
  subst hsz
  have hD := hD0.self (sz := s.heap.size)
  generalize hAe : va_A ([(a0, .inr (9, [.int m_t.1, .int m_t.2.1, .int m_t.2.2, g3, g4, g5, g6, g7, g8, g9, g10, g11, g12, g13, g14, g15, g16, g17, g18, g19, g20, g21, g22, g23, g24, g25, g26, g27, g28, g29]))]) s.heap.size = A at hD ⊢
  have hA : ∀ q : Nat, s.heap.size ≤ q → A q := fun q h => by rw [← hAe]; exact Or.inr h
  have hS : va_S A s.heap s.heap [] := va_S.rf
  have hP : va_P (dC, dI) vwCl ([(a0, .inr (9, [.int m_t.1, .int m_t.2.1, .int m_t.2.2, g3, g4, g5, g6, g7, g8, g9, g10, g11, g12, g13, g14, g15, g16, g17, g18, g19, g20, g21, g22, g23, g24, g25, g26, g27, g28, g29]))]) s.heap := hP
  have hl := lv_entry ([.ref a0, .int k1]) (n := 2) (Nat.le_of_ble_eq_true rfl)
  rw [lg_entry_eq]
  generalize (lg_sl ([.ref a0, .int k1]) ++ List.replicate (2 - (lg_sl ([.ref a0, .int k1])).length) Slot.unset).toArray = ls at hl ⊢
  have hl : lv_has ls 2 [(0, .ref a0), (1, .int k1)] := hl
  refine W_q (fun QQ hQQ => ?_)
  rw [f_X12_denied] at h
  refine lv_aload_n hx hb (zat zrX12_denied_0_ok 0 rfl) rfl (lv_at hl 0 rfl) ?_
  refine lv_iload_n hx hb (zat zrX12_denied_0_ok 1 rfl) rfl (lv_at hl 1 rfl) ?_
  obtain ⟨o2, eo2⟩ : ∃ o, o = f_X12_refused k1 m_t := ⟨_, rfl⟩
  have h := nm_of h o2 eo2
  refine ck_i (wc := ([(a0, .inr (9, [.int m_t.1, .int m_t.2.1, .int m_t.2.2, g3, g4, g5, g6, g7, g8, g9, g10, g11, g12, g13, g14, g15, g16, g17, g18, g19, g20, g21, g22, g23, g24, g25, g26, g27, g28, g29]))])) (wr := []) hP hD hK hS hA [0] [] rfl rfl (by decide) (by decide) (by decide) (fun hPc hDc => (va_runV (As := [.int k1]) (rest := []) ⟨hx, hb, hml, hown, hts⟩ (kfX12_refused l dC dI a0 k1 m_t (g3) (g4) (g5) (g6) (g7) (g8) (g9) (g10) (g11) (g12) (g13) (g14) (g15) (g16) (g17) (g18) (g19) (g20) (g21) (g22) (g23) (g24) (g25) (g26) (g27) (g28) (g29) s.heap.size o2 eo2.symm) (cwV 1 hts gfX12_denied_0 rfl rfl rfl (by decide +kernel) ⟨(Nat.le_of_ble_eq_true rfl), (Nat.le_of_ble_eq_true rfl)⟩) (PV hPc (hK.sub (tys' := ([])) [] rfl) hDc hN 0 rfl rfl) rfl rfl hl.1 rfl (lv_room (Nat.le_of_ble_eq_true rfl)) (zat zrX12_denied_0_ok 2 rfl) ⟨(Nat.le_of_ble_eq_true rfl), (Nat.le_of_ble_eq_true rfl)⟩)) (fun r2 _ H locs hw hP hD _ hS => ?_)
  obtain rfl := hw
  obtain ⟨hP, hD⟩ := pd_mk ([(a0, .inr (9, [.int o2.1, .int o2.2.1, .int o2.2.2, g3, g4, g5, g6, g7, g8, g9, g10, g11, g12, g13, g14, g15, g16, g17, g18, g19, g20, g21, g22, g23, g24, g25, g26, g27, g28, g29]))]) hP hD
  refine lv_pop hx hb (zat zrX12_denied_0_ok 3 rfl) rfl ?_
  refine lv_iconst (v := 0) hx hb (zat zrX12_denied_0_ok 4 rfl) (by decide) ?_
  obtain rfl := h
  obtain ⟨hP9, hD9⟩ := pd_sub ([(a0, .inr (9, [.int o2.1, .int o2.2.1, .int o2.2.2, g3, g4, g5, g6, g7, g8, g9, g10, g11, g12, g13, g14, g15, g16, g17, g18, g19, g20, g21, g22, g23, g24, g25, g26, g27, g28, g29]))]) [0] hP hD (by decide) rfl
  have hK9 := hK.sub (tys' := []) [] rfl
  rw [hQQ]
  exact W.zret (v := (0 : Int32)) hx hb hr rfl (fun t ht hW => ⟨⟨(0 : Int32), (), rfl, ⟨rfl, (by decide)⟩, by rw [ht]; exact hP9, va_K.moved hW.alike hK9, hD9⟩, hS.F ht⟩) hS.2.2 (zat zrX12_denied_0_ok 5 rfl)
noncomputable def zrX12_let_0 : List ZR := zc 0 true (.aload_n 0) 1 (zc 1 true (.iconst 0) 1 (zc 2 true (.putfield 36) 3 (zc 5 true (.aload_n 0) 1 (zc 6 true (.aload_n 0) 1 (zc 7 true (.iload_n 1) 1 (zc 8 true (.invokevirtual 334) 3 (zc 11 true (.iload_n 2) 1 (zc 12 true (.iload_n 3) 1 (zc 13 true (.iload 4) 2 (zc 15 true (.invokevirtual 353) 3 (zc 18 true (.istore 5) 2 (zc 20 true (.iload 5) 2 (zc 22 true (.ifCond .le 10) 3 (zc 25 true (.aload_n 0) 1 (zc 26 true (.iload 5) 2 (zc 28 true (.invokevirtual 498) 3 (zc 31 true (.ireturn) 1 (zc 32 true (.aload_n 0) 1 (zc 33 true (.getfield 17) 3 (zc 36 true (.bipush 18) 2 (zc 38 true (.iload_n 1) 1 (zc 39 true (.iadd) 1 (zc 40 true (.iaload) 1 (zc 41 true (.bipush (-2)) 2 (zc 43 true (.if_icmp .ne 20) 3 (zc 46 true (.aload_n 0) 1 (zc 47 true (.getfield 299) 3 (zc 50 true (.aload_n 0) 1 (zc 51 true (.getfield 17) 3 (zc 54 true (.bipush 23) 2 (zc 56 true (.iaload) 1 (zc 57 true (.invokevirtual 341) 3 (zc 60 true (.ifCond .eq 9) 3 (zc 63 true (.aload_n 0) 1 (zc 64 true (.iconst 5) 1 (zc 65 true (.invokevirtual 498) 3 (zc 68 true (.ireturn) 1 (zc 69 true (.aload_n 0) 1 (zc 70 true (.invokevirtual 501) 3 (zc 73 true (.aload_n 0) 1 (zc 74 true (.getfield 17) 3 (zc 77 true (.bipush 18) 2 (zc 79 true (.iload_n 1) 1 (zc 80 true (.iadd) 1 (zc 81 true (.aload_n 0) 1 (zc 82 true (.iload_n 2) 1 (zc 83 true (.iload_n 3) 1 (zc 84 true (.iload 4) 2 (zc 86 true (.invokevirtual 357) 3 (zc 89 true (.iastore) 1 (zc 90 true (.aload_n 0) 1 (zc 91 true (.invokevirtual 504) 3 (zc 94 true (.ireturn) 1 ([]))))))))))))))))))))))))))))))))))))))))))))))))))))))
theorem zrX12_let_0_ok : zck 0 ((zby cX12_let).drop 0) zrX12_let_0 = true := by decide +kernel
def vfX12_let : List Cond := List.cons (.code yX12_let cX12_let 6 (some .boolean)) (apW [.fieldLink RX12 36 "HookPierModel" "thrown" "I", .methodLink RX12 334 yX12_isAsker, .instanceMethod yX12_isAsker, .selects RX12 yX12_isAsker yX12_isAsker, .initialized RX12, .methodLink RX12 353 yX12_refusesQuestion, .instanceMethod yX12_refusesQuestion, .selects RX12 yX12_refusesQuestion yX12_refusesQuestion, .fieldLink RX12 17 "HookPierModel" "v" "[I", .methodLink RX12 498 yX12_denied, .instanceMethod yX12_denied, .selects RX12 yX12_denied yX12_denied, .fieldLink RX12 299 "HookPierModel" "pier" "LHookPierModel$Pier;", .methodLink RX12 341 yX11_isClose, .instanceMethod yX11_isClose, .selects RX11 yX11_isClose yX11_isClose, .initialized RX11, .methodLink RX12 501 yX12_remembers, .instanceMethod yX12_remembers, .selects RX12 yX12_remembers yX12_remembers, .methodLink RX12 357 yX12_question, .instanceMethod yX12_question, .selects RX12 yX12_question yX12_question, .methodLink RX12 504 yX12_granted, .instanceMethod yX12_granted, .selects RX12 yX12_granted yX12_granted] (apW wsX120 (apW vfX12_isAsker (apW vfX12_refusesQuestion (apW vfX12_denied (apW vfX11_isClose (apW vfX12_remembers (apW vfX12_question (vfX12_granted)))))))))
theorem ifX12_let_X12 : ∀ w ∈ wsX120, w ∈ vfX12_let := fun _ h => (List.mem_cons_of_mem _ (List.mem_append_right _ (List.mem_append_left _ h)))
theorem qfX12_let : Good vfX12_let := gd_cons (by decide +kernel) (gd_app (gd_dec (by decide +kernel) : Good [.fieldLink RX12 36 "HookPierModel" "thrown" "I", .methodLink RX12 334 yX12_isAsker, .instanceMethod yX12_isAsker, .selects RX12 yX12_isAsker yX12_isAsker, .initialized RX12, .methodLink RX12 353 yX12_refusesQuestion, .instanceMethod yX12_refusesQuestion, .selects RX12 yX12_refusesQuestion yX12_refusesQuestion, .fieldLink RX12 17 "HookPierModel" "v" "[I", .methodLink RX12 498 yX12_denied, .instanceMethod yX12_denied, .selects RX12 yX12_denied yX12_denied, .fieldLink RX12 299 "HookPierModel" "pier" "LHookPierModel$Pier;", .methodLink RX12 341 yX11_isClose, .instanceMethod yX11_isClose, .selects RX11 yX11_isClose yX11_isClose, .initialized RX11, .methodLink RX12 501 yX12_remembers, .instanceMethod yX12_remembers, .selects RX12 yX12_remembers yX12_remembers, .methodLink RX12 357 yX12_question, .instanceMethod yX12_question, .selects RX12 yX12_question yX12_question, .methodLink RX12 504 yX12_granted, .instanceMethod yX12_granted, .selects RX12 yX12_granted yX12_granted]) (gd_app qsX12 (gd_app qfX12_isAsker (gd_app qfX12_refusesQuestion (gd_app qfX12_denied (gd_app qfX11_isClose (gd_app qfX12_remembers (gd_app qfX12_question qfX12_granted))))))))
theorem gfX12_let_0 : GoodIn vfX12_let (wsV RX12 334 RX12 yX12_isAsker vfX12_isAsker) := goodIn_app (goodIn_r [.methodLink RX12 334 yX12_isAsker, .instanceMethod yX12_isAsker, .selects RX12 yX12_isAsker yX12_isAsker, .initialized RX12] [2, 3, 4, 5] rfl (by decide +kernel)) (goodIn_m (fun _ h => (List.mem_cons_of_mem _ (List.mem_append_right _ (List.mem_append_right _ (List.mem_append_left _ h))))) qfX12_isAsker)
theorem gfX12_let_1 : GoodIn vfX12_let (wsV RX12 353 RX12 yX12_refusesQuestion vfX12_refusesQuestion) := goodIn_app (goodIn_r [.methodLink RX12 353 yX12_refusesQuestion, .instanceMethod yX12_refusesQuestion, .selects RX12 yX12_refusesQuestion yX12_refusesQuestion, .initialized RX12] [6, 7, 8, 5] rfl (by decide +kernel)) (goodIn_m (fun _ h => (List.mem_cons_of_mem _ (List.mem_append_right _ (List.mem_append_right _ (List.mem_append_right _ (List.mem_append_left _ h)))))) qfX12_refusesQuestion)
theorem gfX12_let_2 : GoodIn vfX12_let (wsV RX12 498 RX12 yX12_denied vfX12_denied) := goodIn_app (goodIn_r [.methodLink RX12 498 yX12_denied, .instanceMethod yX12_denied, .selects RX12 yX12_denied yX12_denied, .initialized RX12] [10, 11, 12, 5] rfl (by decide +kernel)) (goodIn_m (fun _ h => (List.mem_cons_of_mem _ (List.mem_append_right _ (List.mem_append_right _ (List.mem_append_right _ (List.mem_append_right _ (List.mem_append_left _ h))))))) qfX12_denied)
theorem gfX12_let_3 : GoodIn vfX12_let (wsV RX12 341 RX11 yX11_isClose vfX11_isClose) := goodIn_app (goodIn_r [.methodLink RX12 341 yX11_isClose, .instanceMethod yX11_isClose, .selects RX11 yX11_isClose yX11_isClose, .initialized RX11] [14, 15, 16, 17] rfl (by decide +kernel)) (goodIn_m (fun _ h => (List.mem_cons_of_mem _ (List.mem_append_right _ (List.mem_append_right _ (List.mem_append_right _ (List.mem_append_right _ (List.mem_append_right _ (List.mem_append_left _ h)))))))) qfX11_isClose)
theorem gfX12_let_4 : GoodIn vfX12_let (wsV RX12 501 RX12 yX12_remembers vfX12_remembers) := goodIn_app (goodIn_r [.methodLink RX12 501 yX12_remembers, .instanceMethod yX12_remembers, .selects RX12 yX12_remembers yX12_remembers, .initialized RX12] [18, 19, 20, 5] rfl (by decide +kernel)) (goodIn_m (fun _ h => (List.mem_cons_of_mem _ (List.mem_append_right _ (List.mem_append_right _ (List.mem_append_right _ (List.mem_append_right _ (List.mem_append_right _ (List.mem_append_right _ (List.mem_append_left _ h))))))))) qfX12_remembers)
theorem gfX12_let_5 : GoodIn vfX12_let (wsV RX12 357 RX12 yX12_question vfX12_question) := goodIn_app (goodIn_r [.methodLink RX12 357 yX12_question, .instanceMethod yX12_question, .selects RX12 yX12_question yX12_question, .initialized RX12] [21, 22, 23, 5] rfl (by decide +kernel)) (goodIn_m (fun _ h => (List.mem_cons_of_mem _ (List.mem_append_right _ (List.mem_append_right _ (List.mem_append_right _ (List.mem_append_right _ (List.mem_append_right _ (List.mem_append_right _ (List.mem_append_right _ (List.mem_append_left _ h)))))))))) qfX12_question)
theorem gfX12_let_6 : GoodIn vfX12_let (wsV RX12 504 RX12 yX12_granted vfX12_granted) := goodIn_app (goodIn_r [.methodLink RX12 504 yX12_granted, .instanceMethod yX12_granted, .selects RX12 yX12_granted yX12_granted, .initialized RX12] [24, 25, 26, 5] rfl (by decide +kernel)) (goodIn_m (fun _ h => (List.mem_cons_of_mem _ (List.mem_append_right _ (List.mem_append_right _ (List.mem_append_right _ (List.mem_append_right _ (List.mem_append_right _ (List.mem_append_right _ (List.mem_append_right _ (List.mem_append_right _ h)))))))))) qfX12_granted)
set_option maxHeartbeats 2000000 in
set_option maxRecDepth 100000 in
theorem kfX12_let (l : Launch) (dC : Nat → ClassId) (dI : Nat → Nat → Nat) (a0 : Nat) (k1 : Int32) (k2 : Int32) (k3 : Int32) (k4 : Int32) (a5 : Nat) (a6 : Nat) (a7 : Nat) (a8 : Nat) (uq : Nat → Nat) (kq : Nat → ClassId) (m_t : TX12_t) (m_v : TX12_v) (m_h : TX12_h) (g14 : Value) (g15 : Value) (g16 : Value) (g17 : Value) (g18 : Value) (g19 : Value) (g20 : Value) (g21 : Value) (g22 : Value) (g23 : Value) (g24 : Value) (g25 : Value) (g26 : Value) (g27 : Value) (g28 : Value) (g29 : Value) (g30 : Value) (g31 : Value) (g32 : Value) (g33 : Value) (g34 : Value) (q_q : TX11_q) (cB36 : ClassId) (cB37 : ClassId) (cB38 : ClassId) (sz : Nat) (out : (Int32 × TX12_t × TX12_v × TX12_h)) (h : f_X12_let k1 k2 k3 k4 m_t m_v m_h q_q = some out) : KCi l yX12_let vfX12_let ({ frames := 2, cells := 0, slots := 0, locals := 46 }) (dC, dI) [.ref a0, .int k1, .int k2, .int k3, .int k4] sz ((a0, .inr (9, [.int m_t.1, .int m_t.2.1, .int m_t.2.2, .ref a5, g14, g15, g16, g17, g18, g19, g20, g21, g22, g23, g24, .ref a6, g25, .ref a7, .ref a8, .int m_h.2.2.1, .int m_h.2.2.2, g26, g27, g28, g29, g30, g31, g32, g33, g34])) :: bX11 a5 uq kq q_q ([(a6, .inl (cB36, 26, .inl m_v)), (a7, .inl (cB37, 416, .inl m_h.1)), (a8, .inl (cB38, 78, .inl m_h.2.1))])) (tX11 kq ((cB36, .int) :: (cB37, .int) :: (cB38, .int) :: [])) (fun (r : Int32) _ => r = out.1 ∧ (0 ≤ r.toInt ∧ r.toInt ≤ 1)) ((a0, .inr (9, [.int out.2.1.1, .int out.2.1.2.1, .int out.2.1.2.2, .ref a5, g14, g15, g16, g17, g18, g19, g20, g21, g22, g23, g24, .ref a6, g25, .ref a7, .ref a8, .int out.2.2.2.2.2.1, .int out.2.2.2.2.2.2, g26, g27, g28, g29, g30, g31, g32, g33, g34])) :: bX11 a5 uq kq q_q ([(a6, .inl (cB36, 26, .inl out.2.2.1)), (a7, .inl (cB37, 416, .inl out.2.2.2.1)), (a8, .inl (cB38, 78, .inl out.2.2.2.2.1))])) 0 0 := by
  refine Met.ofW (cc := cX12_let) (maxL := 6) (ret := (some .boolean)) (by decide) rfl ?_
  intro p e s m args below meth c s₁ B0 hml hv
  obtain ⟨rfl, hsz, hP, hK, hD0, hN⟩ := hv
  have hx := B0.exec
  have hb := B0.bytes
  have hr := B0.returns
  have hts := atoms_spec (ws := vfX12_let) B0.pre
  have hown : s.vm.findClass RX12 = some m.cls := findClass_of_methodNamed B0.named
  have hlocks := B0.notSynchronized
  subst hsz
  have hD := hD0.self (sz := s.heap.size)
  generalize hAe : va_A ((a0, .inr (9, [.int m_t.1, .int m_t.2.1, .int m_t.2.2, .ref a5, g14, g15, g16, g17, g18, g19, g20, g21, g22, g23, g24, .ref a6, g25, .ref a7, .ref a8, .int m_h.2.2.1, .int m_h.2.2.2, g26, g27, g28, g29, g30, g31, g32, g33, g34])) :: bX11 a5 uq kq q_q ([(a6, .inl (cB36, 26, .inl m_v)), (a7, .inl (cB37, 416, .inl m_h.1)), (a8, .inl (cB38, 78, .inl m_h.2.1))])) s.heap.size = A at hD ⊢
  have hA : ∀ q : Nat, s.heap.size ≤ q → A q := fun q h => by rw [← hAe]; exact Or.inr h
  have hS : va_S A s.heap s.heap [] := va_S.rf
  have hP : va_P (dC, dI) vwCl ((a0, .inr (9, [.int m_t.1, .int m_t.2.1, .int m_t.2.2, .ref a5, g14, g15, g16, g17, g18, g19, g20, g21, g22, g23, g24, .ref a6, g25, .ref a7, .ref a8, .int m_h.2.2.1, .int m_h.2.2.2, g26, g27, g28, g29, g30, g31, g32, g33, g34])) :: bX11 a5 uq kq q_q ([(a6, .inl (cB36, 26, .inl m_v)), (a7, .inl (cB37, 416, .inl m_h.1)), (a8, .inl (cB38, 78, .inl m_h.2.1))])) s.heap := hP
  have hl := lv_entry ([.ref a0, .int k1, .int k2, .int k3, .int k4]) (n := 6) (Nat.le_of_ble_eq_true rfl)
  rw [lg_entry_eq]
  generalize (lg_sl ([.ref a0, .int k1, .int k2, .int k3, .int k4]) ++ List.replicate (6 - (lg_sl ([.ref a0, .int k1, .int k2, .int k3, .int k4])).length) Slot.unset).toArray = ls at hl ⊢
  have hl : lv_has ls 6 [(0, .ref a0), (1, .int k1), (2, .int k2), (3, .int k3), (4, .int k4)] := hl
  refine W_q (fun QQ hQQ => ?_)
  rw [f_X12_let] at h
  refine lv_aload_n hx hb (zat zrX12_let_0_ok 0 rfl) rfl (lv_at hl 0 rfl) ?_
  refine lv_iconst (v := 0) hx hb (zat zrX12_let_0_ok 1 rfl) (by decide) ?_
  refine va_put (D := (dC, dI)) (ci := 9) (v := .int 0) (ty := .int) (C := RX12) (T := TX12) (N := 30) hx hb hts ifX12_let_X12 tyX12 tyX12_ok nmX12 hown hK hP hD hS 0 rfl rfl 0 (by decide) (hts (.fieldLink RX12 36 "HookPierModel" "thrown" "I") (List.mem_of_getElem? (i := 1) rfl)) (fun _ h9 => h9) rfl (by decide +kernel) rfl rfl (Nat.le_of_ble_eq_true rfl) (zat zrX12_let_0_ok 2 rfl) (fun H locs hP hD hS => ?_)
  obtain ⟨hP, hD⟩ := pd_mk ((a0, .inr (9, [.int 0, .int m_t.2.1, .int m_t.2.2, .ref a5, g14, g15, g16, g17, g18, g19, g20, g21, g22, g23, g24, .ref a6, g25, .ref a7, .ref a8, .int m_h.2.2.1, .int m_h.2.2.2, g26, g27, g28, g29, g30, g31, g32, g33, g34])) :: bX11 a5 uq kq q_q ([(a6, .inl (cB36, 26, .inl m_v)), (a7, .inl (cB37, 416, .inl m_h.1)), (a8, .inl (cB38, 78, .inl m_h.2.1))])) hP hD
  refine lv_aload_n hx hb (zat zrX12_let_0_ok 3 rfl) rfl (lv_at hl 0 rfl) ?_
  refine lv_aload_n hx hb (zat zrX12_let_0_ok 4 rfl) rfl (lv_at hl 0 rfl) ?_
  refine lv_iload_n hx hb (zat zrX12_let_0_ok 5 rfl) rfl (lv_at hl 1 rfl) ?_
  obtain ⟨o8, eo8⟩ : ∃ o, o = f_X12_isAsker k1 q_q := ⟨_, rfl⟩
  have h := nm_of h o8 eo8
  refine ck_i (wc := ((a0, .inr (9, [.int 0, .int m_t.2.1, .int m_t.2.2, .ref a5, g14, g15, g16, g17, g18, g19, g20, g21, g22, g23, g24, .ref a6, g25, .ref a7, .ref a8, .int m_h.2.2.1, .int m_h.2.2.2, g26, g27, g28, g29, g30, g31, g32, g33, g34])) :: bX11 a5 uq kq q_q [])) (wr := ([(a6, .inl (cB36, 26, .inl m_v)), (a7, .inl (cB37, 416, .inl m_h.1)), (a8, .inl (cB38, 78, .inl m_h.2.1))])) hP hD hK hS hA [0, 1, 2, 3, 4, 5, 6, 7, 8, 9, 10, 11, 12, 13, 14, 15] [16, 17, 18] rfl rfl (by decide) (by decide) (by decide) (fun hPc hDc => (va_runV (As := [.int k1]) (rest := [.ref a0]) ⟨hx, hb, hml, hown, hts⟩ (kfX12_isAsker l dC dI a0 k1 a5 uq kq (.int 0) (.int m_t.2.1) (.int m_t.2.2) (g14) (g15) (g16) (g17) (g18) (g19) (g20) (g21) (g22) (g23) (g24) (.ref a6) (g25) (.ref a7) (.ref a8) (.int m_h.2.2.1) (.int m_h.2.2.2) (g26) (g27) (g28) (g29) (g30) (g31) (g32) (g33) (g34) q_q H.size o8 eo8.symm) (cwV 1 hts gfX12_let_0 rfl rfl rfl (by decide +kernel) ⟨(Nat.le_of_ble_eq_true rfl), (Nat.le_of_ble_eq_true rfl)⟩) (PV hPc (hK.sub (tys' := (tX11 kq ([]))) [0, 1, 2, 3, 4, 5, 6, 7, 8, 9, 10, 11, 12, 13] rfl) hDc hN 0 rfl rfl) rfl rfl hl.1 rfl (lv_room (Nat.le_of_ble_eq_true rfl)) (zat zrX12_let_0_ok 6 rfl) ⟨(Nat.le_of_ble_eq_true rfl), (Nat.le_of_ble_eq_true rfl)⟩)) (fun r8 _ H locs hw hP hD _ hS => ?_)
  obtain ⟨hw, br8⟩ := hw
  obtain rfl := hw.symm
  obtain ⟨hP, hD⟩ := pd_mk ((a6, .inl (cB36, 26, .inl m_v)) :: (a7, .inl (cB37, 416, .inl m_h.1)) :: (a8, .inl (cB38, 78, .inl m_h.2.1)) :: (a0, .inr (9, [.int 0, .int m_t.2.1, .int m_t.2.2, .ref a5, g14, g15, g16, g17, g18, g19, g20, g21, g22, g23, g24, .ref a6, g25, .ref a7, .ref a8, .int m_h.2.2.1, .int m_h.2.2.2, g26, g27, g28, g29, g30, g31, g32, g33, g34])) :: bX11 a5 uq kq q_q []) hP hD
  refine lv_iload_n hx hb (zat zrX12_let_0_ok 7 rfl) rfl (lv_at hl 2 rfl) ?_
  refine lv_iload_n hx hb (zat zrX12_let_0_ok 8 rfl) rfl (lv_at hl 3 rfl) ?_
  refine lv_iload hx hb (zat zrX12_let_0_ok 9 rfl) (lv_at hl 4 rfl) ?_
  obtain ⟨o15, eo15⟩ : ∃ o, o = f_X12_refusesQuestion o8 k2 k3 k4 q_q := ⟨_, rfl⟩
  have h := nm_of h o15 eo15
  refine ck_i (wc := ((a0, .inr (9, [.int 0, .int m_t.2.1, .int m_t.2.2, .ref a5, g14, g15, g16, g17, g18, g19, g20, g21, g22, g23, g24, .ref a6, g25, .ref a7, .ref a8, .int m_h.2.2.1, .int m_h.2.2.2, g26, g27, g28, g29, g30, g31, g32, g33, g34])) :: bX11 a5 uq kq q_q [])) (wr := ([(a6, .inl (cB36, 26, .inl m_v)), (a7, .inl (cB37, 416, .inl m_h.1)), (a8, .inl (cB38, 78, .inl m_h.2.1))])) hP hD hK hS hA [3, 4, 5, 6, 7, 8, 9, 10, 11, 12, 13, 14, 15, 16, 17, 18] [0, 1, 2] rfl rfl (by decide) (by decide) (by decide) (fun hPc hDc => (va_runV (As := [.int o8, .int k2, .int k3, .int k4]) (rest := []) ⟨hx, hb, hml, hown, hts⟩ (kfX12_refusesQuestion l dC dI a0 o8 k2 k3 k4 a5 uq kq (.int 0) (.int m_t.2.1) (.int m_t.2.2) (g14) (g15) (g16) (g17) (g18) (g19) (g20) (g21) (g22) (g23) (g24) (.ref a6) (g25) (.ref a7) (.ref a8) (.int m_h.2.2.1) (.int m_h.2.2.2) (g26) (g27) (g28) (g29) (g30) (g31) (g32) (g33) (g34) q_q H.size o15 eo15.symm) (cwV 4 hts gfX12_let_1 rfl rfl rfl (by decide +kernel) ⟨(Nat.le_of_ble_eq_true rfl), (Nat.le_of_ble_eq_true rfl)⟩) (PV hPc (hK.sub (tys' := (tX11 kq ([]))) [0, 1, 2, 3, 4, 5, 6, 7, 8, 9, 10, 11, 12, 13] rfl) hDc hN 0 rfl rfl) rfl rfl hl.1 rfl (lv_room (Nat.le_of_ble_eq_true rfl)) (zat zrX12_let_0_ok 10 rfl) ⟨(Nat.le_of_ble_eq_true rfl), (Nat.le_of_ble_eq_true rfl)⟩)) (fun r15 _ H locs hw hP hD _ hS => ?_)
  obtain rfl := hw.symm
  obtain ⟨hP, hD⟩ := pd_mk ((a6, .inl (cB36, 26, .inl m_v)) :: (a7, .inl (cB37, 416, .inl m_h.1)) :: (a8, .inl (cB38, 78, .inl m_h.2.1)) :: (a0, .inr (9, [.int 0, .int m_t.2.1, .int m_t.2.2, .ref a5, g14, g15, g16, g17, g18, g19, g20, g21, g22, g23, g24, .ref a6, g25, .ref a7, .ref a8, .int m_h.2.2.1, .int m_h.2.2.2, g26, g27, g28, g29, g30, g31, g32, g33, g34])) :: bX11 a5 uq kq q_q []) hP hD
  refine lv_istore (lv' := [(5, .int o15), (0, .ref a0), (1, .int k1), (2, .int k2), (3, .int k3), (4, .int k4)]) hx hb (zat zrX12_let_0_ok 11 rfl) hl (by decide) rfl (fun ls hl => ?_)
  refine lv_iload hx hb (zat zrX12_let_0_ok 12 rfl) (lv_at hl 0 rfl) ?_
  refine lv_if_le (tgt := 32) hx hb (zat zrX12_let_0_ok 13 rfl) (by decide) (fun c22 => ?_) (fun c22 => ?_)
  · have h := (if_pos c22).symm.trans h
    refine lv_aload_n hx hb (zat zrX12_let_0_ok 18 rfl) rfl (lv_at hl 1 rfl) ?_
    refine va_get (D := (dC, dI)) (ci := 9) (v := .ref a6) (C := RX12) (T := TX12) (N := 30) hx hb hts ifX12_let_X12 hown hK hP 3 rfl rfl 15 (by decide) (hts (.fieldLink RX12 17 "HookPierModel" "v" "[I") (List.mem_of_getElem? (i := 9) rfl)) (fun _ h9 => h9) rfl (zat zrX12_let_0_ok 19 rfl) ?_
    refine lv_bipush (v := 18) hx hb (zat zrX12_let_0_ok 20 rfl) (by decide) ?_
    refine lv_iload_n hx hb (zat zrX12_let_0_ok 21 rfl) rfl (lv_at hl 2 rfl) ?_
    refine lv_iadd hx hb (zat zrX12_let_0_ok 22 rfl) ?_
    obtain ⟨hg40, h⟩ := gA_of h
    refine va_iald hx hb hK hP 0 14 rfl rfl hg40 (zat zrX12_let_0_ok 23 rfl) ?_
    refine lv_bipush (v := (-2)) hx hb (zat zrX12_let_0_ok 24 rfl) (by decide) ?_
    have J63 : ∀ (H : Heap) (locs : List Loc) (ls : Array Slot), f_X12_let_J63 m_t m_v m_h = some out → va_P (dC, dI) vwCl ((a6, .inl (cB36, 26, .inl m_v)) :: (a7, .inl (cB37, 416, .inl m_h.1)) :: (a8, .inl (cB38, 78, .inl m_h.2.1)) :: (a0, .inr (9, [.int 0, .int m_t.2.1, .int m_t.2.2, .ref a5, g14, g15, g16, g17, g18, g19, g20, g21, g22, g23, g24, .ref a6, g25, .ref a7, .ref a8, .int m_h.2.2.1, .int m_h.2.2.2, g26, g27, g28, g29, g30, g31, g32, g33, g34])) :: bX11 a5 uq kq q_q []) H → va_D A ((a6, .inl (cB36, 26, .inl m_v)) :: (a7, .inl (cB37, 416, .inl m_h.1)) :: (a8, .inl (cB38, 78, .inl m_h.2.1)) :: (a0, .inr (9, [.int 0, .int m_t.2.1, .int m_t.2.2, .ref a5, g14, g15, g16, g17, g18, g19, g20, g21, g22, g23, g24, .ref a6, g25, .ref a7, .ref a8, .int m_h.2.2.1, .int m_h.2.2.2, g26, g27, g28, g29, g30, g31, g32, g33, g34])) :: bX11 a5 uq kq q_q []) → va_S A s.heap H locs → lv_has ls 6 [(0, .ref a0)] → W p l e (headSpec vfX12_let { frames := 2, cells := 0, slots := 0, locals := 46 }).room s m ([.ref a0, .int k1, .int k2, .int k3, .int k4]).toArray below meth c H locs 0 0 QQ (F0 m 63 ls []) := by
      intro  H locs ls h  hP hD hS hl
      rw [f_X12_let_J63] at h
      refine lv_aload_n hx hb (zat zrX12_let_0_ok 34 rfl) rfl (lv_at hl 0 rfl) ?_
      refine lv_iconst (v := 5) hx hb (zat zrX12_let_0_ok 35 rfl) (by decide) ?_
      obtain ⟨o65, eo65⟩ : ∃ o, o = f_X12_denied (5 : Int32) ((0 : Int32), m_t.2) := ⟨_, rfl⟩
      have h := nm_of h o65 eo65
      refine ck_i (wc := ([(a0, .inr (9, [.int 0, .int m_t.2.1, .int m_t.2.2, .ref a5, g14, g15, g16, g17, g18, g19, g20, g21, g22, g23, g24, .ref a6, g25, .ref a7, .ref a8, .int m_h.2.2.1, .int m_h.2.2.2, g26, g27, g28, g29, g30, g31, g32, g33, g34]))])) (wr := ((a6, .inl (cB36, 26, .inl m_v)) :: (a7, .inl (cB37, 416, .inl m_h.1)) :: (a8, .inl (cB38, 78, .inl m_h.2.1)) :: bX11 a5 uq kq q_q [])) hP hD hK hS hA [3] [0, 1, 2, 4, 5, 6, 7, 8, 9, 10, 11, 12, 13, 14, 15, 16, 17, 18] rfl rfl (by decide) (by decide) (by decide) (fun hPc hDc => (va_runV (As := [.int 5]) (rest := []) ⟨hx, hb, hml, hown, hts⟩ (kfX12_denied l dC dI a0 (5 : Int32) ((0 : Int32), m_t.2) (.ref a5) (g14) (g15) (g16) (g17) (g18) (g19) (g20) (g21) (g22) (g23) (g24) (.ref a6) (g25) (.ref a7) (.ref a8) (.int m_h.2.2.1) (.int m_h.2.2.2) (g26) (g27) (g28) (g29) (g30) (g31) (g32) (g33) (g34) H.size o65 eo65.symm) (cwV 1 hts gfX12_let_2 rfl rfl rfl (by decide +kernel) ⟨(Nat.le_of_ble_eq_true rfl), (Nat.le_of_ble_eq_true rfl)⟩) (PV hPc (hK.sub (tys' := ([])) [] rfl) hDc hN 0 rfl rfl) rfl rfl hl.1 rfl (lv_room (Nat.le_of_ble_eq_true rfl)) (zat zrX12_let_0_ok 36 rfl) ⟨(Nat.le_of_ble_eq_true rfl), (Nat.le_of_ble_eq_true rfl)⟩)) (fun r65 _ H locs hw hP hD _ hS => ?_)
      obtain ⟨hw, br65⟩ := hw
      obtain rfl := hw
      obtain ⟨hP, hD⟩ := pd_mk ((a6, .inl (cB36, 26, .inl m_v)) :: (a7, .inl (cB37, 416, .inl m_h.1)) :: (a8, .inl (cB38, 78, .inl m_h.2.1)) :: bX11 a5 uq kq q_q ([(a0, .inr (9, [.int o65.1, .int o65.2.1, .int o65.2.2, .ref a5, g14, g15, g16, g17, g18, g19, g20, g21, g22, g23, g24, .ref a6, g25, .ref a7, .ref a8, .int m_h.2.2.1, .int m_h.2.2.2, g26, g27, g28, g29, g30, g31, g32, g33, g34]))])) hP hD
      obtain rfl := Option.some.inj h
      obtain ⟨hP9, hD9⟩ := pd_sub ((a0, .inr (9, [.int o65.1, .int o65.2.1, .int o65.2.2, .ref a5, g14, g15, g16, g17, g18, g19, g20, g21, g22, g23, g24, .ref a6, g25, .ref a7, .ref a8, .int m_h.2.2.1, .int m_h.2.2.2, g26, g27, g28, g29, g30, g31, g32, g33, g34])) :: bX11 a5 uq kq q_q ([(a6, .inl (cB36, 26, .inl m_v)), (a7, .inl (cB37, 416, .inl m_h.1)), (a8, .inl (cB38, 78, .inl m_h.2.1))])) [18, 3, 4, 5, 6, 7, 8, 9, 10, 11, 12, 13, 14, 15, 16, 17, 0, 1, 2] hP hD (by decide) rfl
      have hK9 := hK.sub (tys' := []) [] rfl
      rw [hQQ]
      exact W.zret (v := (0 : Int32)) hx hb hr rfl (fun t ht hW => ⟨⟨(0 : Int32), (), rfl, ⟨rfl, (by decide)⟩, by rw [ht]; exact hP9, va_K.moved hW.alike hK9, hD9⟩, hS.F ht⟩) hS.2.2 (zat zrX12_let_0_ok 37 rfl)
    refine lv_icmp_ne (tgt := 63) hx hb (zat zrX12_let_0_ok 25 rfl) (by decide) (fun c43 => ?_) (fun c43 => ?_)
    · have h := (if_neg c43).symm.trans h
      exact J63  H _ ls h  hP hD hS (lv_sub hl [1] rfl)
    · have h := (if_pos c43).symm.trans h
      refine lv_aload_n hx hb (zat zrX12_let_0_ok 26 rfl) rfl (lv_at hl 1 rfl) ?_
      refine va_get (D := (dC, dI)) (ci := 9) (v := .ref a5) (C := RX12) (T := TX12) (N := 30) hx hb hts ifX12_let_X12 hown hK hP 3 rfl rfl 3 (by decide) (hts (.fieldLink RX12 299 "HookPierModel" "pier" "LHookPierModel$Pier;") (List.mem_of_getElem? (i := 13) rfl)) (fun _ h9 => h9) rfl (zat zrX12_let_0_ok 27 rfl) ?_
      refine lv_aload_n hx hb (zat zrX12_let_0_ok 28 rfl) rfl (lv_at hl 1 rfl) ?_
      refine va_get (D := (dC, dI)) (ci := 9) (v := .ref a6) (C := RX12) (T := TX12) (N := 30) hx hb hts ifX12_let_X12 hown hK hP 3 rfl rfl 15 (by decide) (hts (.fieldLink RX12 17 "HookPierModel" "v" "[I") (List.mem_of_getElem? (i := 9) rfl)) (fun _ h9 => h9) rfl (zat zrX12_let_0_ok 29 rfl) ?_
      refine lv_bipush (v := 23) hx hb (zat zrX12_let_0_ok 30 rfl) (by decide) ?_
      refine va_iald hx hb hK hP 0 14 rfl rfl (by unfold vp_in; decide) (zat zrX12_let_0_ok 31 rfl) ?_
      obtain ⟨o57, eo57⟩ : ∃ o, o = f_X11_isClose (m_v ((23 : Int32)).toNatClampNeg) q_q := ⟨_, rfl⟩
      have h := nm_of h o57 eo57
      refine ck_i (wc := (bX11 a5 uq kq q_q [])) (wr := ([(a6, .inl (cB36, 26, .inl m_v)), (a7, .inl (cB37, 416, .inl m_h.1)), (a8, .inl (cB38, 78, .inl m_h.2.1)), (a0, .inr (9, [.int 0, .int m_t.2.1, .int m_t.2.2, .ref a5, g14, g15, g16, g17, g18, g19, g20, g21, g22, g23, g24, .ref a6, g25, .ref a7, .ref a8, .int m_h.2.2.1, .int m_h.2.2.2, g26, g27, g28, g29, g30, g31, g32, g33, g34]))])) hP hD hK hS hA [4, 5, 6, 7, 8, 9, 10, 11, 12, 13, 14, 15, 16, 17, 18] [0, 1, 2, 3] rfl rfl (by decide) (by decide) (by decide) (fun hPc hDc => (va_runV (As := [.int (m_v ((23 : Int32)).toNatClampNeg)]) (rest := []) ⟨hx, hb, hml, hown, hts⟩ (kfX11_isClose l dC dI a5 (m_v ((23 : Int32)).toNatClampNeg) uq kq q_q H.size o57 eo57.symm) (cwV 1 hts gfX12_let_3 rfl rfl rfl (by decide +kernel) ⟨(Nat.le_of_ble_eq_true rfl), (Nat.le_of_ble_eq_true rfl)⟩) (PV hPc (hK.sub (tys' := (tX11 kq ([]))) [0, 1, 2, 3, 4, 5, 6, 7, 8, 9, 10, 11, 12, 13] rfl) hDc hN 0 rfl rfl) rfl rfl hl.1 rfl (lv_room (Nat.le_of_ble_eq_true rfl)) (zat zrX12_let_0_ok 32 rfl) ⟨(Nat.le_of_ble_eq_true rfl), (Nat.le_of_ble_eq_true rfl)⟩)) (fun r57 _ H locs hw hP hD _ hS => ?_)
      obtain ⟨hw, br57⟩ := hw
      obtain rfl := hw.symm
      obtain ⟨hP, hD⟩ := pd_mk ((a6, .inl (cB36, 26, .inl m_v)) :: (a7, .inl (cB37, 416, .inl m_h.1)) :: (a8, .inl (cB38, 78, .inl m_h.2.1)) :: (a0, .inr (9, [.int 0, .int m_t.2.1, .int m_t.2.2, .ref a5, g14, g15, g16, g17, g18, g19, g20, g21, g22, g23, g24, .ref a6, g25, .ref a7, .ref a8, .int m_h.2.2.1, .int m_h.2.2.2, g26, g27, g28, g29, g30, g31, g32, g33, g34])) :: bX11 a5 uq kq q_q []) hP hD
      refine lv_if_eq (tgt := 69) hx hb (zat zrX12_let_0_ok 33 rfl) (by decide) (fun c60 => ?_) (fun c60 => ?_)
      · have h := (if_pos c60).symm.trans h
        refine lv_aload_n hx hb (zat zrX12_let_0_ok 38 rfl) rfl (lv_at hl 1 rfl) ?_
        obtain ⟨o70, eo70, h⟩ := bd_of h
        refine ck_v (wc := ([(a0, .inr (9, [.int 0, .int m_t.2.1, .int m_t.2.2, .ref a5, g14, g15, g16, g17, g18, g19, g20, g21, g22, g23, g24, .ref a6, g25, .ref a7, .ref a8, .int m_h.2.2.1, .int m_h.2.2.2, g26, g27, g28, g29, g30, g31, g32, g33, g34])), (a6, .inl (cB36, 26, .inl m_v)), (a7, .inl (cB37, 416, .inl m_h.1)), (a8, .inl (cB38, 78, .inl m_h.2.1))])) (wr := (bX11 a5 uq kq q_q [])) hP hD hK hS hA [3, 0, 1, 2] [4, 5, 6, 7, 8, 9, 10, 11, 12, 13, 14, 15, 16, 17, 18] rfl rfl (by decide) (by decide) (by decide) (fun hPc hDc => (va_runV (As := []) (rest := []) ⟨hx, hb, hml, hown, hts⟩ (kfX12_remembers l dC dI a0 a6 a7 a8 m_v m_h (.int 0) (.int m_t.2.1) (.int m_t.2.2) (.ref a5) (g14) (g15) (g16) (g17) (g18) (g19) (g20) (g21) (g22) (g23) (g24) (g25) (g26) (g27) (g28) (g29) (g30) (g31) (g32) (g33) (g34) cB36 cB37 cB38 H.size o70 eo70) (cwV 0 hts gfX12_let_4 rfl rfl rfl (by decide +kernel) ⟨(Nat.le_of_ble_eq_true rfl), (Nat.le_of_ble_eq_true rfl)⟩) (PV hPc (hK.sub (tys' := ((cB36, .int) :: (cB37, .int) :: (cB38, .int) :: [])) [14, 15, 16] rfl) hDc hN 0 rfl rfl) rfl rfl hl.1 rfl (lv_room (Nat.le_of_ble_eq_true rfl)) (zat zrX12_let_0_ok 39 rfl) ⟨(Nat.le_of_ble_eq_true rfl), (Nat.le_of_ble_eq_true rfl)⟩)) (fun _ H locs hw hP hD _ hS => ?_)
        obtain ⟨hP, hD⟩ := pd_mk (bX11 a5 uq kq q_q ([(a0, .inr (9, [.int 0, .int m_t.2.1, .int m_t.2.2, .ref a5, g14, g15, g16, g17, g18, g19, g20, g21, g22, g23, g24, .ref a6, g25, .ref a7, .ref a8, .int o70.2.2.1, .int o70.2.2.2, g26, g27, g28, g29, g30, g31, g32, g33, g34])), (a6, .inl (cB36, 26, .inl m_v)), (a7, .inl (cB37, 416, .inl o70.1)), (a8, .inl (cB38, 78, .inl o70.2.1))])) hP hD
        refine lv_aload_n hx hb (zat zrX12_let_0_ok 40 rfl) rfl (lv_at hl 1 rfl) ?_
        refine va_get (D := (dC, dI)) (ci := 9) (v := .ref a6) (C := RX12) (T := TX12) (N := 30) hx hb hts ifX12_let_X12 hown hK hP 15 rfl rfl 15 (by decide) (hts (.fieldLink RX12 17 "HookPierModel" "v" "[I") (List.mem_of_getElem? (i := 9) rfl)) (fun _ h9 => h9) rfl (zat zrX12_let_0_ok 41 rfl) ?_
        refine lv_bipush (v := 18) hx hb (zat zrX12_let_0_ok 42 rfl) (by decide) ?_
        refine lv_iload_n hx hb (zat zrX12_let_0_ok 43 rfl) rfl (lv_at hl 2 rfl) ?_
        refine lv_iadd hx hb (zat zrX12_let_0_ok 44 rfl) ?_
        refine lv_aload_n hx hb (zat zrX12_let_0_ok 45 rfl) rfl (lv_at hl 1 rfl) ?_
        refine lv_iload_n hx hb (zat zrX12_let_0_ok 46 rfl) rfl (lv_at hl 3 rfl) ?_
        refine lv_iload_n hx hb (zat zrX12_let_0_ok 47 rfl) rfl (lv_at hl 4 rfl) ?_
        refine lv_iload hx hb (zat zrX12_let_0_ok 48 rfl) (lv_at hl 5 rfl) ?_
        obtain ⟨o86, eo86⟩ : ∃ o, o = f_X12_question k2 k3 k4 q_q := ⟨_, rfl⟩
        have h := nm_of h o86 eo86
        refine ck_i (wc := ((a0, .inr (9, [.int 0, .int m_t.2.1, .int m_t.2.2, .ref a5, g14, g15, g16, g17, g18, g19, g20, g21, g22, g23, g24, .ref a6, g25, .ref a7, .ref a8, .int o70.2.2.1, .int o70.2.2.2, g26, g27, g28, g29, g30, g31, g32, g33, g34])) :: bX11 a5 uq kq q_q [])) (wr := ([(a6, .inl (cB36, 26, .inl m_v)), (a7, .inl (cB37, 416, .inl o70.1)), (a8, .inl (cB38, 78, .inl o70.2.1))])) hP hD hK hS hA [15, 0, 1, 2, 3, 4, 5, 6, 7, 8, 9, 10, 11, 12, 13, 14] [16, 17, 18] rfl rfl (by decide) (by decide) (by decide) (fun hPc hDc => (va_runV (As := [.int k2, .int k3, .int k4]) (rest := [.int ((18 : Int32) + k1), .ref a6]) ⟨hx, hb, hml, hown, hts⟩ (kfX12_question l dC dI a0 k2 k3 k4 a5 uq kq (.int 0) (.int m_t.2.1) (.int m_t.2.2) (g14) (g15) (g16) (g17) (g18) (g19) (g20) (g21) (g22) (g23) (g24) (.ref a6) (g25) (.ref a7) (.ref a8) (.int o70.2.2.1) (.int o70.2.2.2) (g26) (g27) (g28) (g29) (g30) (g31) (g32) (g33) (g34) q_q H.size o86 eo86.symm) (cwV 3 hts gfX12_let_5 rfl rfl rfl (by decide +kernel) ⟨(Nat.le_of_ble_eq_true rfl), (Nat.le_of_ble_eq_true rfl)⟩) (PV hPc (hK.sub (tys' := (tX11 kq ([]))) [0, 1, 2, 3, 4, 5, 6, 7, 8, 9, 10, 11, 12, 13] rfl) hDc hN 0 rfl rfl) rfl rfl hl.1 rfl (lv_room (Nat.le_of_ble_eq_true rfl)) (zat zrX12_let_0_ok 49 rfl) ⟨(Nat.le_of_ble_eq_true rfl), (Nat.le_of_ble_eq_true rfl)⟩)) (fun r86 _ H locs hw hP hD _ hS => ?_)
        obtain rfl := hw.symm
        obtain ⟨hP, hD⟩ := pd_mk ((a6, .inl (cB36, 26, .inl m_v)) :: (a7, .inl (cB37, 416, .inl o70.1)) :: (a8, .inl (cB38, 78, .inl o70.2.1)) :: (a0, .inr (9, [.int 0, .int m_t.2.1, .int m_t.2.2, .ref a5, g14, g15, g16, g17, g18, g19, g20, g21, g22, g23, g24, .ref a6, g25, .ref a7, .ref a8, .int o70.2.2.1, .int o70.2.2.2, g26, g27, g28, g29, g30, g31, g32, g33, g34])) :: bX11 a5 uq kq q_q []) hP hD
        obtain ⟨hg89, h⟩ := gA_of h
        refine va_iast hx hb hK hP hD hS 0 14 rfl rfl hg89 (zat zrX12_let_0_ok 50 rfl) (fun H locs hP hD hS => ?_)
        obtain ⟨hP, hD⟩ := pd_mk ((a6, .inl (cB36, 26, .inl (upd m_v (((18 : Int32) + k1)).toNatClampNeg o86))) :: (a7, .inl (cB37, 416, .inl o70.1)) :: (a8, .inl (cB38, 78, .inl o70.2.1)) :: (a0, .inr (9, [.int 0, .int m_t.2.1, .int m_t.2.2, .ref a5, g14, g15, g16, g17, g18, g19, g20, g21, g22, g23, g24, .ref a6, g25, .ref a7, .ref a8, .int o70.2.2.1, .int o70.2.2.2, g26, g27, g28, g29, g30, g31, g32, g33, g34])) :: bX11 a5 uq kq q_q []) hP hD
        refine lv_aload_n hx hb (zat zrX12_let_0_ok 51 rfl) rfl (lv_at hl 1 rfl) ?_
        obtain ⟨o91, eo91⟩ : ∃ o, o = f_X12_granted ((0 : Int32), m_t.2) := ⟨_, rfl⟩
        have h := nm_of h o91 eo91
        refine ck_i (wc := ([(a0, .inr (9, [.int 0, .int m_t.2.1, .int m_t.2.2, .ref a5, g14, g15, g16, g17, g18, g19, g20, g21, g22, g23, g24, .ref a6, g25, .ref a7, .ref a8, .int o70.2.2.1, .int o70.2.2.2, g26, g27, g28, g29, g30, g31, g32, g33, g34]))])) (wr := ((a6, .inl (cB36, 26, .inl (upd m_v (((18 : Int32) + k1)).toNatClampNeg o86))) :: (a7, .inl (cB37, 416, .inl o70.1)) :: (a8, .inl (cB38, 78, .inl o70.2.1)) :: bX11 a5 uq kq q_q [])) hP hD hK hS hA [3] [0, 1, 2, 4, 5, 6, 7, 8, 9, 10, 11, 12, 13, 14, 15, 16, 17, 18] rfl rfl (by decide) (by decide) (by decide) (fun hPc hDc => (va_runV (As := []) (rest := []) ⟨hx, hb, hml, hown, hts⟩ (kfX12_granted l dC dI a0 ((0 : Int32), m_t.2) (.ref a5) (g14) (g15) (g16) (g17) (g18) (g19) (g20) (g21) (g22) (g23) (g24) (.ref a6) (g25) (.ref a7) (.ref a8) (.int o70.2.2.1) (.int o70.2.2.2) (g26) (g27) (g28) (g29) (g30) (g31) (g32) (g33) (g34) H.size o91 eo91.symm) (cwV 0 hts gfX12_let_6 rfl rfl rfl (by decide +kernel) ⟨(Nat.le_of_ble_eq_true rfl), (Nat.le_of_ble_eq_true rfl)⟩) (PV hPc (hK.sub (tys' := ([])) [] rfl) hDc hN 0 rfl rfl) rfl rfl hl.1 rfl (lv_room (Nat.le_of_ble_eq_true rfl)) (zat zrX12_let_0_ok 52 rfl) ⟨(Nat.le_of_ble_eq_true rfl), (Nat.le_of_ble_eq_true rfl)⟩)) (fun r91 _ H locs hw hP hD _ hS => ?_)
        obtain ⟨hw, br91⟩ := hw
        obtain rfl := hw
        obtain ⟨hP, hD⟩ := pd_mk ((a6, .inl (cB36, 26, .inl (upd m_v (((18 : Int32) + k1)).toNatClampNeg o86))) :: (a7, .inl (cB37, 416, .inl o70.1)) :: (a8, .inl (cB38, 78, .inl o70.2.1)) :: bX11 a5 uq kq q_q ([(a0, .inr (9, [.int o91.1, .int o91.2.1, .int o91.2.2, .ref a5, g14, g15, g16, g17, g18, g19, g20, g21, g22, g23, g24, .ref a6, g25, .ref a7, .ref a8, .int o70.2.2.1, .int o70.2.2.2, g26, g27, g28, g29, g30, g31, g32, g33, g34]))])) hP hD
        obtain rfl := Option.some.inj h
        obtain ⟨hP9, hD9⟩ := pd_sub ((a0, .inr (9, [.int o91.1, .int o91.2.1, .int o91.2.2, .ref a5, g14, g15, g16, g17, g18, g19, g20, g21, g22, g23, g24, .ref a6, g25, .ref a7, .ref a8, .int o70.2.2.1, .int o70.2.2.2, g26, g27, g28, g29, g30, g31, g32, g33, g34])) :: bX11 a5 uq kq q_q ([(a6, .inl (cB36, 26, .inl (upd m_v (((18 : Int32) + k1)).toNatClampNeg o86))), (a7, .inl (cB37, 416, .inl o70.1)), (a8, .inl (cB38, 78, .inl o70.2.1))])) [18, 3, 4, 5, 6, 7, 8, 9, 10, 11, 12, 13, 14, 15, 16, 17, 0, 1, 2] hP hD (by decide) rfl
        have hK9 := hK.sub (tys' := []) [] rfl
        rw [hQQ]
        exact W.zret (v := (1 : Int32)) hx hb hr rfl (fun t ht hW => ⟨⟨(1 : Int32), (), rfl, ⟨rfl, (by decide)⟩, by rw [ht]; exact hP9, va_K.moved hW.alike hK9, hD9⟩, hS.F ht⟩) hS.2.2 (zat zrX12_let_0_ok 53 rfl)
      · have h := (if_neg c60).symm.trans h
        exact J63  H _ ls h  hP hD hS (lv_sub hl [1] rfl)
  · have h := (if_neg c22).symm.trans h
    refine lv_aload_n hx hb (zat zrX12_let_0_ok 14 rfl) rfl (lv_at hl 1 rfl) ?_
    refine lv_iload hx hb (zat zrX12_let_0_ok 15 rfl) (lv_at hl 0 rfl) ?_
    obtain ⟨o28, eo28⟩ : ∃ o, o = f_X12_denied o15 ((0 : Int32), m_t.2) := ⟨_, rfl⟩
    have h := nm_of h o28 eo28
    refine ck_i (wc := ([(a0, .inr (9, [.int 0, .int m_t.2.1, .int m_t.2.2, .ref a5, g14, g15, g16, g17, g18, g19, g20, g21, g22, g23, g24, .ref a6, g25, .ref a7, .ref a8, .int m_h.2.2.1, .int m_h.2.2.2, g26, g27, g28, g29, g30, g31, g32, g33, g34]))])) (wr := ((a6, .inl (cB36, 26, .inl m_v)) :: (a7, .inl (cB37, 416, .inl m_h.1)) :: (a8, .inl (cB38, 78, .inl m_h.2.1)) :: bX11 a5 uq kq q_q [])) hP hD hK hS hA [3] [0, 1, 2, 4, 5, 6, 7, 8, 9, 10, 11, 12, 13, 14, 15, 16, 17, 18] rfl rfl (by decide) (by decide) (by decide) (fun hPc hDc => (va_runV (As := [.int o15]) (rest := []) ⟨hx, hb, hml, hown, hts⟩ (kfX12_denied l dC dI a0 o15 ((0 : Int32), m_t.2) (.ref a5) (g14) (g15) (g16) (g17) (g18) (g19) (g20) (g21) (g22) (g23) (g24) (.ref a6) (g25) (.ref a7) (.ref a8) (.int m_h.2.2.1) (.int m_h.2.2.2) (g26) (g27) (g28) (g29) (g30) (g31) (g32) (g33) (g34) H.size o28 eo28.symm) (cwV 1 hts gfX12_let_2 rfl rfl rfl (by decide +kernel) ⟨(Nat.le_of_ble_eq_true rfl), (Nat.le_of_ble_eq_true rfl)⟩) (PV hPc (hK.sub (tys' := ([])) [] rfl) hDc hN 0 rfl rfl) rfl rfl hl.1 rfl (lv_room (Nat.le_of_ble_eq_true rfl)) (zat zrX12_let_0_ok 16 rfl) ⟨(Nat.le_of_ble_eq_true rfl), (Nat.le_of_ble_eq_true rfl)⟩)) (fun r28 _ H locs hw hP hD _ hS => ?_)
    obtain ⟨hw, br28⟩ := hw
    obtain rfl := hw
    obtain ⟨hP, hD⟩ := pd_mk ((a6, .inl (cB36, 26, .inl m_v)) :: (a7, .inl (cB37, 416, .inl m_h.1)) :: (a8, .inl (cB38, 78, .inl m_h.2.1)) :: bX11 a5 uq kq q_q ([(a0, .inr (9, [.int o28.1, .int o28.2.1, .int o28.2.2, .ref a5, g14, g15, g16, g17, g18, g19, g20, g21, g22, g23, g24, .ref a6, g25, .ref a7, .ref a8, .int m_h.2.2.1, .int m_h.2.2.2, g26, g27, g28, g29, g30, g31, g32, g33, g34]))])) hP hD
    obtain rfl := Option.some.inj h
    obtain ⟨hP9, hD9⟩ := pd_sub ((a0, .inr (9, [.int o28.1, .int o28.2.1, .int o28.2.2, .ref a5, g14, g15, g16, g17, g18, g19, g20, g21, g22, g23, g24, .ref a6, g25, .ref a7, .ref a8, .int m_h.2.2.1, .int m_h.2.2.2, g26, g27, g28, g29, g30, g31, g32, g33, g34])) :: bX11 a5 uq kq q_q ([(a6, .inl (cB36, 26, .inl m_v)), (a7, .inl (cB37, 416, .inl m_h.1)), (a8, .inl (cB38, 78, .inl m_h.2.1))])) [18, 3, 4, 5, 6, 7, 8, 9, 10, 11, 12, 13, 14, 15, 16, 17, 0, 1, 2] hP hD (by decide) rfl
    have hK9 := hK.sub (tys' := []) [] rfl
    rw [hQQ]
    exact W.zret (v := (0 : Int32)) hx hb hr rfl (fun t ht hW => ⟨⟨(0 : Int32), (), rfl, ⟨rfl, (by decide)⟩, by rw [ht]; exact hP9, va_K.moved hW.alike hK9, hD9⟩, hS.F ht⟩) hS.2.2 (zat zrX12_let_0_ok 17 rfl)
noncomputable def zrX12_drawIn_0 : List ZR := zc 0 true (.aload_n 0) 1 (zc 1 true (.iconst 0) 1 (zc 2 true (.putfield 36) 3 (zc 5 true (.aload_n 0) 1 (zc 6 true (.iload_n 1) 1 (zc 7 true (.invokevirtual 334) 3 (zc 10 true (.ifCond .ne 9) 3 (zc 13 true (.aload_n 0) 1 (zc 14 true (.iconst 1) 1 (zc 15 true (.invokevirtual 498) 3 (zc 18 true (.ireturn) 1 (zc 19 true (.aload_n 0) 1 (zc 20 true (.getfield 17) 3 (zc 23 true (.bipush 18) 2 (zc 25 true (.iload_n 1) 1 (zc 26 true (.iadd) 1 (zc 27 true (.iaload) 1 (zc 28 true (.bipush (-2)) 2 (zc 30 true (.if_icmp .ne 9) 3 (zc 33 true (.aload_n 0) 1 (zc 34 true (.iconst 5) 1 (zc 35 true (.invokevirtual 498) 3 (zc 38 true (.ireturn) 1 (zc 39 true (.aload_n 0) 1 (zc 40 true (.invokevirtual 501) 3 (zc 43 true (.aload_n 0) 1 (zc 44 true (.getfield 17) 3 (zc 47 true (.bipush 18) 2 (zc 49 true (.iload_n 1) 1 (zc 50 true (.iadd) 1 (zc 51 true (.bipush (-2)) 2 (zc 53 true (.iastore) 1 (zc 54 true (.aload_n 0) 1 (zc 55 true (.invokevirtual 504) 3 (zc 58 true (.ireturn) 1 ([])))))))))))))))))))))))))))))))))))
theorem zrX12_drawIn_0_ok : zck 0 ((zby cX12_drawIn).drop 0) zrX12_drawIn_0 = true := by decide +kernel
def vfX12_drawIn : List Cond := List.cons (.code yX12_drawIn cX12_drawIn 2 (some .boolean)) (apW [.fieldLink RX12 36 "HookPierModel" "thrown" "I", .methodLink RX12 334 yX12_isAsker, .instanceMethod yX12_isAsker, .selects RX12 yX12_isAsker yX12_isAsker, .initialized RX12, .fieldLink RX12 17 "HookPierModel" "v" "[I", .methodLink RX12 501 yX12_remembers, .instanceMethod yX12_remembers, .selects RX12 yX12_remembers yX12_remembers, .methodLink RX12 504 yX12_granted, .instanceMethod yX12_granted, .selects RX12 yX12_granted yX12_granted, .methodLink RX12 498 yX12_denied, .instanceMethod yX12_denied, .selects RX12 yX12_denied yX12_denied] (apW wsX120 (apW vfX12_isAsker (apW vfX12_remembers (apW vfX12_granted (vfX12_denied))))))
theorem ifX12_drawIn_X12 : ∀ w ∈ wsX120, w ∈ vfX12_drawIn := fun _ h => (List.mem_cons_of_mem _ (List.mem_append_right _ (List.mem_append_left _ h)))
theorem qfX12_drawIn : Good vfX12_drawIn := gd_cons (by decide +kernel) (gd_app (gd_dec (by decide +kernel) : Good [.fieldLink RX12 36 "HookPierModel" "thrown" "I", .methodLink RX12 334 yX12_isAsker, .instanceMethod yX12_isAsker, .selects RX12 yX12_isAsker yX12_isAsker, .initialized RX12, .fieldLink RX12 17 "HookPierModel" "v" "[I", .methodLink RX12 501 yX12_remembers, .instanceMethod yX12_remembers, .selects RX12 yX12_remembers yX12_remembers, .methodLink RX12 504 yX12_granted, .instanceMethod yX12_granted, .selects RX12 yX12_granted yX12_granted, .methodLink RX12 498 yX12_denied, .instanceMethod yX12_denied, .selects RX12 yX12_denied yX12_denied]) (gd_app qsX12 (gd_app qfX12_isAsker (gd_app qfX12_remembers (gd_app qfX12_granted qfX12_denied)))))
theorem gfX12_drawIn_0 : GoodIn vfX12_drawIn (wsV RX12 334 RX12 yX12_isAsker vfX12_isAsker) := goodIn_app (goodIn_r [.methodLink RX12 334 yX12_isAsker, .instanceMethod yX12_isAsker, .selects RX12 yX12_isAsker yX12_isAsker, .initialized RX12] [2, 3, 4, 5] rfl (by decide +kernel)) (goodIn_m (fun _ h => (List.mem_cons_of_mem _ (List.mem_append_right _ (List.mem_append_right _ (List.mem_append_left _ h))))) qfX12_isAsker)
theorem gfX12_drawIn_1 : GoodIn vfX12_drawIn (wsV RX12 501 RX12 yX12_remembers vfX12_remembers) := goodIn_app (goodIn_r [.methodLink RX12 501 yX12_remembers, .instanceMethod yX12_remembers, .selects RX12 yX12_remembers yX12_remembers, .initialized RX12] [7, 8, 9, 5] rfl (by decide +kernel)) (goodIn_m (fun _ h => (List.mem_cons_of_mem _ (List.mem_append_right _ (List.mem_append_right _ (List.mem_append_right _ (List.mem_append_left _ h)))))) qfX12_remembers)
theorem gfX12_drawIn_2 : GoodIn vfX12_drawIn (wsV RX12 504 RX12 yX12_granted vfX12_granted) := goodIn_app (goodIn_r [.methodLink RX12 504 yX12_granted, .instanceMethod yX12_granted, .selects RX12 yX12_granted yX12_granted, .initialized RX12] [10, 11, 12, 5] rfl (by decide +kernel)) (goodIn_m (fun _ h => (List.mem_cons_of_mem _ (List.mem_append_right _ (List.mem_append_right _ (List.mem_append_right _ (List.mem_append_right _ (List.mem_append_left _ h))))))) qfX12_granted)
theorem gfX12_drawIn_3 : GoodIn vfX12_drawIn (wsV RX12 498 RX12 yX12_denied vfX12_denied) := goodIn_app (goodIn_r [.methodLink RX12 498 yX12_denied, .instanceMethod yX12_denied, .selects RX12 yX12_denied yX12_denied, .initialized RX12] [13, 14, 15, 5] rfl (by decide +kernel)) (goodIn_m (fun _ h => (List.mem_cons_of_mem _ (List.mem_append_right _ (List.mem_append_right _ (List.mem_append_right _ (List.mem_append_right _ (List.mem_append_right _ h))))))) qfX12_denied)
set_option maxHeartbeats 2000000 in
set_option maxRecDepth 100000 in
theorem kfX12_drawIn (l : Launch) (dC : Nat → ClassId) (dI : Nat → Nat → Nat) (a0 : Nat) (k1 : Int32) (a2 : Nat) (a3 : Nat) (a4 : Nat) (a5 : Nat) (uq : Nat → Nat) (kq : Nat → ClassId) (m_t : TX12_t) (m_v : TX12_v) (m_h : TX12_h) (g11 : Value) (g12 : Value) (g13 : Value) (g14 : Value) (g15 : Value) (g16 : Value) (g17 : Value) (g18 : Value) (g19 : Value) (g20 : Value) (g21 : Value) (g22 : Value) (g23 : Value) (g24 : Value) (g25 : Value) (g26 : Value) (g27 : Value) (g28 : Value) (g29 : Value) (g30 : Value) (g31 : Value) (q_q : TX11_q) (cB33 : ClassId) (cB34 : ClassId) (cB35 : ClassId) (sz : Nat) (out : (Int32 × TX12_t × TX12_v × TX12_h)) (h : f_X12_drawIn k1 m_t m_v m_h q_q = some out) : KCi l yX12_drawIn vfX12_drawIn ({ frames := 2, cells := 0, slots := 0, locals := 42 }) (dC, dI) [.ref a0, .int k1] sz ((a0, .inr (9, [.int m_t.1, .int m_t.2.1, .int m_t.2.2, .ref a2, g11, g12, g13, g14, g15, g16, g17, g18, g19, g20, g21, .ref a3, g22, .ref a4, .ref a5, .int m_h.2.2.1, .int m_h.2.2.2, g23, g24, g25, g26, g27, g28, g29, g30, g31])) :: bX11 a2 uq kq q_q ([(a3, .inl (cB33, 26, .inl m_v)), (a4, .inl (cB34, 416, .inl m_h.1)), (a5, .inl (cB35, 78, .inl m_h.2.1))])) (tX11 kq ((cB33, .int) :: (cB34, .int) :: (cB35, .int) :: [])) (fun (r : Int32) _ => r = out.1 ∧ (0 ≤ r.toInt ∧ r.toInt ≤ 1)) ((a0, .inr (9, [.int out.2.1.1, .int out.2.1.2.1, .int out.2.1.2.2, .ref a2, g11, g12, g13, g14, g15, g16, g17, g18, g19, g20, g21, .ref a3, g22, .ref a4, .ref a5, .int out.2.2.2.2.2.1, .int out.2.2.2.2.2.2, g23, g24, g25, g26, g27, g28, g29, g30, g31])) :: bX11 a2 uq kq q_q ([(a3, .inl (cB33, 26, .inl out.2.2.1)), (a4, .inl (cB34, 416, .inl out.2.2.2.1)), (a5, .inl (cB35, 78, .inl out.2.2.2.2.1))])) 0 0 := by
  refine Met.ofW (cc := cX12_drawIn) (maxL := 2) (ret := (some .boolean)) (by decide) rfl ?_
  intro p e s m args below meth c s₁ B0 hml hv
  obtain ⟨rfl, hsz, hP, hK, hD0, hN⟩ := hv
  have hx := B0.exec
  have hb := B0.bytes
  have hr := B0.returns
  have hts := atoms_spec (ws := vfX12_drawIn) B0.pre
  have hown : s.vm.findClass RX12 = some m.cls := findClass_of_methodNamed B0.named
  have hlocks := B0.notSynchronized
  subst hsz
  have hD := hD0.self (sz := s.heap.size)
  generalize hAe : va_A ((a0, .inr (9, [.int m_t.1, .int m_t.2.1, .int m_t.2.2, .ref a2, g11, g12, g13, g14, g15, g16, g17, g18, g19, g20, g21, .ref a3, g22, .ref a4, .ref a5, .int m_h.2.2.1, .int m_h.2.2.2, g23, g24, g25, g26, g27, g28, g29, g30, g31])) :: bX11 a2 uq kq q_q ([(a3, .inl (cB33, 26, .inl m_v)), (a4, .inl (cB34, 416, .inl m_h.1)), (a5, .inl (cB35, 78, .inl m_h.2.1))])) s.heap.size = A at hD ⊢
  have hA : ∀ q : Nat, s.heap.size ≤ q → A q := fun q h => by rw [← hAe]; exact Or.inr h
  have hS : va_S A s.heap s.heap [] := va_S.rf
  have hP : va_P (dC, dI) vwCl ((a0, .inr (9, [.int m_t.1, .int m_t.2.1, .int m_t.2.2, .ref a2, g11, g12, g13, g14, g15, g16, g17, g18, g19, g20, g21, .ref a3, g22, .ref a4, .ref a5, .int m_h.2.2.1, .int m_h.2.2.2, g23, g24, g25, g26, g27, g28, g29, g30, g31])) :: bX11 a2 uq kq q_q ([(a3, .inl (cB33, 26, .inl m_v)), (a4, .inl (cB34, 416, .inl m_h.1)), (a5, .inl (cB35, 78, .inl m_h.2.1))])) s.heap := hP
  have hl := lv_entry ([.ref a0, .int k1]) (n := 2) (Nat.le_of_ble_eq_true rfl)
  rw [lg_entry_eq]
  generalize (lg_sl ([.ref a0, .int k1]) ++ List.replicate (2 - (lg_sl ([.ref a0, .int k1])).length) Slot.unset).toArray = ls at hl ⊢
  have hl : lv_has ls 2 [(0, .ref a0), (1, .int k1)] := hl
  refine W_q (fun QQ hQQ => ?_)
  rw [f_X12_drawIn] at h
  refine lv_aload_n hx hb (zat zrX12_drawIn_0_ok 0 rfl) rfl (lv_at hl 0 rfl) ?_
  refine lv_iconst (v := 0) hx hb (zat zrX12_drawIn_0_ok 1 rfl) (by decide) ?_
  refine va_put (D := (dC, dI)) (ci := 9) (v := .int 0) (ty := .int) (C := RX12) (T := TX12) (N := 30) hx hb hts ifX12_drawIn_X12 tyX12 tyX12_ok nmX12 hown hK hP hD hS 0 rfl rfl 0 (by decide) (hts (.fieldLink RX12 36 "HookPierModel" "thrown" "I") (List.mem_of_getElem? (i := 1) rfl)) (fun _ h9 => h9) rfl (by decide +kernel) rfl rfl (Nat.le_of_ble_eq_true rfl) (zat zrX12_drawIn_0_ok 2 rfl) (fun H locs hP hD hS => ?_)
  obtain ⟨hP, hD⟩ := pd_mk ((a0, .inr (9, [.int 0, .int m_t.2.1, .int m_t.2.2, .ref a2, g11, g12, g13, g14, g15, g16, g17, g18, g19, g20, g21, .ref a3, g22, .ref a4, .ref a5, .int m_h.2.2.1, .int m_h.2.2.2, g23, g24, g25, g26, g27, g28, g29, g30, g31])) :: bX11 a2 uq kq q_q ([(a3, .inl (cB33, 26, .inl m_v)), (a4, .inl (cB34, 416, .inl m_h.1)), (a5, .inl (cB35, 78, .inl m_h.2.1))])) hP hD
  refine lv_aload_n hx hb (zat zrX12_drawIn_0_ok 3 rfl) rfl (lv_at hl 0 rfl) ?_
  refine lv_iload_n hx hb (zat zrX12_drawIn_0_ok 4 rfl) rfl (lv_at hl 1 rfl) ?_
  obtain ⟨o7, eo7⟩ : ∃ o, o = f_X12_isAsker k1 q_q := ⟨_, rfl⟩
  have h := nm_of h o7 eo7
  refine ck_i (wc := ((a0, .inr (9, [.int 0, .int m_t.2.1, .int m_t.2.2, .ref a2, g11, g12, g13, g14, g15, g16, g17, g18, g19, g20, g21, .ref a3, g22, .ref a4, .ref a5, .int m_h.2.2.1, .int m_h.2.2.2, g23, g24, g25, g26, g27, g28, g29, g30, g31])) :: bX11 a2 uq kq q_q [])) (wr := ([(a3, .inl (cB33, 26, .inl m_v)), (a4, .inl (cB34, 416, .inl m_h.1)), (a5, .inl (cB35, 78, .inl m_h.2.1))])) hP hD hK hS hA [0, 1, 2, 3, 4, 5, 6, 7, 8, 9, 10, 11, 12, 13, 14, 15] [16, 17, 18] rfl rfl (by decide) (by decide) (by decide) (fun hPc hDc => (va_runV (As := [.int k1]) (rest := []) ⟨hx, hb, hml, hown, hts⟩ (kfX12_isAsker l dC dI a0 k1 a2 uq kq (.int 0) (.int m_t.2.1) (.int m_t.2.2) (g11) (g12) (g13) (g14) (g15) (g16) (g17) (g18) (g19) (g20) (g21) (.ref a3) (g22) (.ref a4) (.ref a5) (.int m_h.2.2.1) (.int m_h.2.2.2) (g23) (g24) (g25) (g26) (g27) (g28) (g29) (g30) (g31) q_q H.size o7 eo7.symm) (cwV 1 hts gfX12_drawIn_0 rfl rfl rfl (by decide +kernel) ⟨(Nat.le_of_ble_eq_true rfl), (Nat.le_of_ble_eq_true rfl)⟩) (PV hPc (hK.sub (tys' := (tX11 kq ([]))) [0, 1, 2, 3, 4, 5, 6, 7, 8, 9, 10, 11, 12, 13] rfl) hDc hN 0 rfl rfl) rfl rfl hl.1 rfl (lv_room (Nat.le_of_ble_eq_true rfl)) (zat zrX12_drawIn_0_ok 5 rfl) ⟨(Nat.le_of_ble_eq_true rfl), (Nat.le_of_ble_eq_true rfl)⟩)) (fun r7 _ H locs hw hP hD _ hS => ?_)
  obtain ⟨hw, br7⟩ := hw
  obtain rfl := hw.symm
  obtain ⟨hP, hD⟩ := pd_mk ((a3, .inl (cB33, 26, .inl m_v)) :: (a4, .inl (cB34, 416, .inl m_h.1)) :: (a5, .inl (cB35, 78, .inl m_h.2.1)) :: (a0, .inr (9, [.int 0, .int m_t.2.1, .int m_t.2.2, .ref a2, g11, g12, g13, g14, g15, g16, g17, g18, g19, g20, g21, .ref a3, g22, .ref a4, .ref a5, .int m_h.2.2.1, .int m_h.2.2.2, g23, g24, g25, g26, g27, g28, g29, g30, g31])) :: bX11 a2 uq kq q_q []) hP hD
  refine lv_if_ne (tgt := 19) hx hb (zat zrX12_drawIn_0_ok 6 rfl) (by decide) (fun c10 => ?_) (fun c10 => ?_)
  · have h := (if_neg c10).symm.trans h
    refine lv_aload_n hx hb (zat zrX12_drawIn_0_ok 11 rfl) rfl (lv_at hl 0 rfl) ?_
    refine va_get (D := (dC, dI)) (ci := 9) (v := .ref a3) (C := RX12) (T := TX12) (N := 30) hx hb hts ifX12_drawIn_X12 hown hK hP 3 rfl rfl 15 (by decide) (hts (.fieldLink RX12 17 "HookPierModel" "v" "[I") (List.mem_of_getElem? (i := 6) rfl)) (fun _ h9 => h9) rfl (zat zrX12_drawIn_0_ok 12 rfl) ?_
    refine lv_bipush (v := 18) hx hb (zat zrX12_drawIn_0_ok 13 rfl) (by decide) ?_
    refine lv_iload_n hx hb (zat zrX12_drawIn_0_ok 14 rfl) rfl (lv_at hl 1 rfl) ?_
    refine lv_iadd hx hb (zat zrX12_drawIn_0_ok 15 rfl) ?_
    obtain ⟨hg27, h⟩ := gA_of h
    refine va_iald hx hb hK hP 0 14 rfl rfl hg27 (zat zrX12_drawIn_0_ok 16 rfl) ?_
    refine lv_bipush (v := (-2)) hx hb (zat zrX12_drawIn_0_ok 17 rfl) (by decide) ?_
    refine lv_icmp_ne (tgt := 39) hx hb (zat zrX12_drawIn_0_ok 18 rfl) (by decide) (fun c30 => ?_) (fun c30 => ?_)
    · have h := (if_neg c30).symm.trans h
      refine lv_aload_n hx hb (zat zrX12_drawIn_0_ok 23 rfl) rfl (lv_at hl 0 rfl) ?_
      obtain ⟨o40, eo40, h⟩ := bd_of h
      refine ck_v (wc := ([(a0, .inr (9, [.int 0, .int m_t.2.1, .int m_t.2.2, .ref a2, g11, g12, g13, g14, g15, g16, g17, g18, g19, g20, g21, .ref a3, g22, .ref a4, .ref a5, .int m_h.2.2.1, .int m_h.2.2.2, g23, g24, g25, g26, g27, g28, g29, g30, g31])), (a3, .inl (cB33, 26, .inl m_v)), (a4, .inl (cB34, 416, .inl m_h.1)), (a5, .inl (cB35, 78, .inl m_h.2.1))])) (wr := (bX11 a2 uq kq q_q [])) hP hD hK hS hA [3, 0, 1, 2] [4, 5, 6, 7, 8, 9, 10, 11, 12, 13, 14, 15, 16, 17, 18] rfl rfl (by decide) (by decide) (by decide) (fun hPc hDc => (va_runV (As := []) (rest := []) ⟨hx, hb, hml, hown, hts⟩ (kfX12_remembers l dC dI a0 a3 a4 a5 m_v m_h (.int 0) (.int m_t.2.1) (.int m_t.2.2) (.ref a2) (g11) (g12) (g13) (g14) (g15) (g16) (g17) (g18) (g19) (g20) (g21) (g22) (g23) (g24) (g25) (g26) (g27) (g28) (g29) (g30) (g31) cB33 cB34 cB35 H.size o40 eo40) (cwV 0 hts gfX12_drawIn_1 rfl rfl rfl (by decide +kernel) ⟨(Nat.le_of_ble_eq_true rfl), (Nat.le_of_ble_eq_true rfl)⟩) (PV hPc (hK.sub (tys' := ((cB33, .int) :: (cB34, .int) :: (cB35, .int) :: [])) [14, 15, 16] rfl) hDc hN 0 rfl rfl) rfl rfl hl.1 rfl (lv_room (Nat.le_of_ble_eq_true rfl)) (zat zrX12_drawIn_0_ok 24 rfl) ⟨(Nat.le_of_ble_eq_true rfl), (Nat.le_of_ble_eq_true rfl)⟩)) (fun _ H locs hw hP hD _ hS => ?_)
      obtain ⟨hP, hD⟩ := pd_mk (bX11 a2 uq kq q_q ([(a0, .inr (9, [.int 0, .int m_t.2.1, .int m_t.2.2, .ref a2, g11, g12, g13, g14, g15, g16, g17, g18, g19, g20, g21, .ref a3, g22, .ref a4, .ref a5, .int o40.2.2.1, .int o40.2.2.2, g23, g24, g25, g26, g27, g28, g29, g30, g31])), (a3, .inl (cB33, 26, .inl m_v)), (a4, .inl (cB34, 416, .inl o40.1)), (a5, .inl (cB35, 78, .inl o40.2.1))])) hP hD
      refine lv_aload_n hx hb (zat zrX12_drawIn_0_ok 25 rfl) rfl (lv_at hl 0 rfl) ?_
      refine va_get (D := (dC, dI)) (ci := 9) (v := .ref a3) (C := RX12) (T := TX12) (N := 30) hx hb hts ifX12_drawIn_X12 hown hK hP 15 rfl rfl 15 (by decide) (hts (.fieldLink RX12 17 "HookPierModel" "v" "[I") (List.mem_of_getElem? (i := 6) rfl)) (fun _ h9 => h9) rfl (zat zrX12_drawIn_0_ok 26 rfl) ?_
      refine lv_bipush (v := 18) hx hb (zat zrX12_drawIn_0_ok 27 rfl) (by decide) ?_
      refine lv_iload_n hx hb (zat zrX12_drawIn_0_ok 28 rfl) rfl (lv_at hl 1 rfl) ?_
      refine lv_iadd hx hb (zat zrX12_drawIn_0_ok 29 rfl) ?_
      refine lv_bipush (v := (-2)) hx hb (zat zrX12_drawIn_0_ok 30 rfl) (by decide) ?_
      obtain ⟨hg53, h⟩ := gA_of h
      refine va_iast hx hb hK hP hD hS 16 14 rfl rfl hg53 (zat zrX12_drawIn_0_ok 31 rfl) (fun H locs hP hD hS => ?_)
      obtain ⟨hP, hD⟩ := pd_mk (bX11 a2 uq kq q_q ([(a0, .inr (9, [.int 0, .int m_t.2.1, .int m_t.2.2, .ref a2, g11, g12, g13, g14, g15, g16, g17, g18, g19, g20, g21, .ref a3, g22, .ref a4, .ref a5, .int o40.2.2.1, .int o40.2.2.2, g23, g24, g25, g26, g27, g28, g29, g30, g31])), (a3, .inl (cB33, 26, .inl (upd m_v (((18 : Int32) + k1)).toNatClampNeg (-2 : Int32)))), (a4, .inl (cB34, 416, .inl o40.1)), (a5, .inl (cB35, 78, .inl o40.2.1))])) hP hD
      refine lv_aload_n hx hb (zat zrX12_drawIn_0_ok 32 rfl) rfl (lv_at hl 0 rfl) ?_
      obtain ⟨o55, eo55⟩ : ∃ o, o = f_X12_granted ((0 : Int32), m_t.2) := ⟨_, rfl⟩
      have h := nm_of h o55 eo55
      refine ck_i (wc := ([(a0, .inr (9, [.int 0, .int m_t.2.1, .int m_t.2.2, .ref a2, g11, g12, g13, g14, g15, g16, g17, g18, g19, g20, g21, .ref a3, g22, .ref a4, .ref a5, .int o40.2.2.1, .int o40.2.2.2, g23, g24, g25, g26, g27, g28, g29, g30, g31]))])) (wr := (bX11 a2 uq kq q_q ([(a3, .inl (cB33, 26, .inl (upd m_v (((18 : Int32) + k1)).toNatClampNeg (-2 : Int32)))), (a4, .inl (cB34, 416, .inl o40.1)), (a5, .inl (cB35, 78, .inl o40.2.1))]))) hP hD hK hS hA [15] [0, 1, 2, 3, 4, 5, 6, 7, 8, 9, 10, 11, 12, 13, 14, 16, 17, 18] rfl rfl (by decide) (by decide) (by decide) (fun hPc hDc => (va_runV (As := []) (rest := []) ⟨hx, hb, hml, hown, hts⟩ (kfX12_granted l dC dI a0 ((0 : Int32), m_t.2) (.ref a2) (g11) (g12) (g13) (g14) (g15) (g16) (g17) (g18) (g19) (g20) (g21) (.ref a3) (g22) (.ref a4) (.ref a5) (.int o40.2.2.1) (.int o40.2.2.2) (g23) (g24) (g25) (g26) (g27) (g28) (g29) (g30) (g31) H.size o55 eo55.symm) (cwV 0 hts gfX12_drawIn_2 rfl rfl rfl (by decide +kernel) ⟨(Nat.le_of_ble_eq_true rfl), (Nat.le_of_ble_eq_true rfl)⟩) (PV hPc (hK.sub (tys' := ([])) [] rfl) hDc hN 0 rfl rfl) rfl rfl hl.1 rfl (lv_room (Nat.le_of_ble_eq_true rfl)) (zat zrX12_drawIn_0_ok 33 rfl) ⟨(Nat.le_of_ble_eq_true rfl), (Nat.le_of_ble_eq_true rfl)⟩)) (fun r55 _ H locs hw hP hD _ hS => ?_)
      obtain ⟨hw, br55⟩ := hw
      obtain rfl := hw
      obtain ⟨hP, hD⟩ := pd_mk (bX11 a2 uq kq q_q ([(a3, .inl (cB33, 26, .inl (upd m_v (((18 : Int32) + k1)).toNatClampNeg (-2 : Int32)))), (a4, .inl (cB34, 416, .inl o40.1)), (a5, .inl (cB35, 78, .inl o40.2.1)), (a0, .inr (9, [.int o55.1, .int o55.2.1, .int o55.2.2, .ref a2, g11, g12, g13, g14, g15, g16, g17, g18, g19, g20, g21, .ref a3, g22, .ref a4, .ref a5, .int o40.2.2.1, .int o40.2.2.2, g23, g24, g25, g26, g27, g28, g29, g30, g31]))])) hP hD
      obtain rfl := Option.some.inj h
      obtain ⟨hP9, hD9⟩ := pd_sub ((a0, .inr (9, [.int o55.1, .int o55.2.1, .int o55.2.2, .ref a2, g11, g12, g13, g14, g15, g16, g17, g18, g19, g20, g21, .ref a3, g22, .ref a4, .ref a5, .int o40.2.2.1, .int o40.2.2.2, g23, g24, g25, g26, g27, g28, g29, g30, g31])) :: bX11 a2 uq kq q_q ([(a3, .inl (cB33, 26, .inl (upd m_v (((18 : Int32) + k1)).toNatClampNeg (-2 : Int32)))), (a4, .inl (cB34, 416, .inl o40.1)), (a5, .inl (cB35, 78, .inl o40.2.1))])) [18, 0, 1, 2, 3, 4, 5, 6, 7, 8, 9, 10, 11, 12, 13, 14, 15, 16, 17] hP hD (by decide) rfl
      have hK9 := hK.sub (tys' := []) [] rfl
      rw [hQQ]
      exact W.zret (v := (1 : Int32)) hx hb hr rfl (fun t ht hW => ⟨⟨(1 : Int32), (), rfl, ⟨rfl, (by decide)⟩, by rw [ht]; exact hP9, va_K.moved hW.alike hK9, hD9⟩, hS.F ht⟩) hS.2.2 (zat zrX12_drawIn_0_ok 34 rfl)
    · have h := (if_pos c30).symm.trans h
      refine lv_aload_n hx hb (zat zrX12_drawIn_0_ok 19 rfl) rfl (lv_at hl 0 rfl) ?_
      refine lv_iconst (v := 5) hx hb (zat zrX12_drawIn_0_ok 20 rfl) (by decide) ?_
      obtain ⟨o35, eo35⟩ : ∃ o, o = f_X12_denied (5 : Int32) ((0 : Int32), m_t.2) := ⟨_, rfl⟩
      have h := nm_of h o35 eo35
      refine ck_i (wc := ([(a0, .inr (9, [.int 0, .int m_t.2.1, .int m_t.2.2, .ref a2, g11, g12, g13, g14, g15, g16, g17, g18, g19, g20, g21, .ref a3, g22, .ref a4, .ref a5, .int m_h.2.2.1, .int m_h.2.2.2, g23, g24, g25, g26, g27, g28, g29, g30, g31]))])) (wr := ((a3, .inl (cB33, 26, .inl m_v)) :: (a4, .inl (cB34, 416, .inl m_h.1)) :: (a5, .inl (cB35, 78, .inl m_h.2.1)) :: bX11 a2 uq kq q_q [])) hP hD hK hS hA [3] [0, 1, 2, 4, 5, 6, 7, 8, 9, 10, 11, 12, 13, 14, 15, 16, 17, 18] rfl rfl (by decide) (by decide) (by decide) (fun hPc hDc => (va_runV (As := [.int 5]) (rest := []) ⟨hx, hb, hml, hown, hts⟩ (kfX12_denied l dC dI a0 (5 : Int32) ((0 : Int32), m_t.2) (.ref a2) (g11) (g12) (g13) (g14) (g15) (g16) (g17) (g18) (g19) (g20) (g21) (.ref a3) (g22) (.ref a4) (.ref a5) (.int m_h.2.2.1) (.int m_h.2.2.2) (g23) (g24) (g25) (g26) (g27) (g28) (g29) (g30) (g31) H.size o35 eo35.symm) (cwV 1 hts gfX12_drawIn_3 rfl rfl rfl (by decide +kernel) ⟨(Nat.le_of_ble_eq_true rfl), (Nat.le_of_ble_eq_true rfl)⟩) (PV hPc (hK.sub (tys' := ([])) [] rfl) hDc hN 0 rfl rfl) rfl rfl hl.1 rfl (lv_room (Nat.le_of_ble_eq_true rfl)) (zat zrX12_drawIn_0_ok 21 rfl) ⟨(Nat.le_of_ble_eq_true rfl), (Nat.le_of_ble_eq_true rfl)⟩)) (fun r35 _ H locs hw hP hD _ hS => ?_)
      obtain ⟨hw, br35⟩ := hw
      obtain rfl := hw
      obtain ⟨hP, hD⟩ := pd_mk ((a3, .inl (cB33, 26, .inl m_v)) :: (a4, .inl (cB34, 416, .inl m_h.1)) :: (a5, .inl (cB35, 78, .inl m_h.2.1)) :: bX11 a2 uq kq q_q ([(a0, .inr (9, [.int o35.1, .int o35.2.1, .int o35.2.2, .ref a2, g11, g12, g13, g14, g15, g16, g17, g18, g19, g20, g21, .ref a3, g22, .ref a4, .ref a5, .int m_h.2.2.1, .int m_h.2.2.2, g23, g24, g25, g26, g27, g28, g29, g30, g31]))])) hP hD
      obtain rfl := Option.some.inj h
      obtain ⟨hP9, hD9⟩ := pd_sub ((a0, .inr (9, [.int o35.1, .int o35.2.1, .int o35.2.2, .ref a2, g11, g12, g13, g14, g15, g16, g17, g18, g19, g20, g21, .ref a3, g22, .ref a4, .ref a5, .int m_h.2.2.1, .int m_h.2.2.2, g23, g24, g25, g26, g27, g28, g29, g30, g31])) :: bX11 a2 uq kq q_q ([(a3, .inl (cB33, 26, .inl m_v)), (a4, .inl (cB34, 416, .inl m_h.1)), (a5, .inl (cB35, 78, .inl m_h.2.1))])) [18, 3, 4, 5, 6, 7, 8, 9, 10, 11, 12, 13, 14, 15, 16, 17, 0, 1, 2] hP hD (by decide) rfl
      have hK9 := hK.sub (tys' := []) [] rfl
      rw [hQQ]
      exact W.zret (v := (0 : Int32)) hx hb hr rfl (fun t ht hW => ⟨⟨(0 : Int32), (), rfl, ⟨rfl, (by decide)⟩, by rw [ht]; exact hP9, va_K.moved hW.alike hK9, hD9⟩, hS.F ht⟩) hS.2.2 (zat zrX12_drawIn_0_ok 22 rfl)
  · have h := (if_pos c10).symm.trans h
    refine lv_aload_n hx hb (zat zrX12_drawIn_0_ok 7 rfl) rfl (lv_at hl 0 rfl) ?_
    refine lv_iconst (v := 1) hx hb (zat zrX12_drawIn_0_ok 8 rfl) (by decide) ?_
    obtain ⟨o15, eo15⟩ : ∃ o, o = f_X12_denied (1 : Int32) ((0 : Int32), m_t.2) := ⟨_, rfl⟩
    have h := nm_of h o15 eo15
    refine ck_i (wc := ([(a0, .inr (9, [.int 0, .int m_t.2.1, .int m_t.2.2, .ref a2, g11, g12, g13, g14, g15, g16, g17, g18, g19, g20, g21, .ref a3, g22, .ref a4, .ref a5, .int m_h.2.2.1, .int m_h.2.2.2, g23, g24, g25, g26, g27, g28, g29, g30, g31]))])) (wr := ((a3, .inl (cB33, 26, .inl m_v)) :: (a4, .inl (cB34, 416, .inl m_h.1)) :: (a5, .inl (cB35, 78, .inl m_h.2.1)) :: bX11 a2 uq kq q_q [])) hP hD hK hS hA [3] [0, 1, 2, 4, 5, 6, 7, 8, 9, 10, 11, 12, 13, 14, 15, 16, 17, 18] rfl rfl (by decide) (by decide) (by decide) (fun hPc hDc => (va_runV (As := [.int 1]) (rest := []) ⟨hx, hb, hml, hown, hts⟩ (kfX12_denied l dC dI a0 (1 : Int32) ((0 : Int32), m_t.2) (.ref a2) (g11) (g12) (g13) (g14) (g15) (g16) (g17) (g18) (g19) (g20) (g21) (.ref a3) (g22) (.ref a4) (.ref a5) (.int m_h.2.2.1) (.int m_h.2.2.2) (g23) (g24) (g25) (g26) (g27) (g28) (g29) (g30) (g31) H.size o15 eo15.symm) (cwV 1 hts gfX12_drawIn_3 rfl rfl rfl (by decide +kernel) ⟨(Nat.le_of_ble_eq_true rfl), (Nat.le_of_ble_eq_true rfl)⟩) (PV hPc (hK.sub (tys' := ([])) [] rfl) hDc hN 0 rfl rfl) rfl rfl hl.1 rfl (lv_room (Nat.le_of_ble_eq_true rfl)) (zat zrX12_drawIn_0_ok 9 rfl) ⟨(Nat.le_of_ble_eq_true rfl), (Nat.le_of_ble_eq_true rfl)⟩)) (fun r15 _ H locs hw hP hD _ hS => ?_)
    obtain ⟨hw, br15⟩ := hw
    obtain rfl := hw
    obtain ⟨hP, hD⟩ := pd_mk ((a3, .inl (cB33, 26, .inl m_v)) :: (a4, .inl (cB34, 416, .inl m_h.1)) :: (a5, .inl (cB35, 78, .inl m_h.2.1)) :: bX11 a2 uq kq q_q ([(a0, .inr (9, [.int o15.1, .int o15.2.1, .int o15.2.2, .ref a2, g11, g12, g13, g14, g15, g16, g17, g18, g19, g20, g21, .ref a3, g22, .ref a4, .ref a5, .int m_h.2.2.1, .int m_h.2.2.2, g23, g24, g25, g26, g27, g28, g29, g30, g31]))])) hP hD
    obtain rfl := Option.some.inj h
    obtain ⟨hP9, hD9⟩ := pd_sub ((a0, .inr (9, [.int o15.1, .int o15.2.1, .int o15.2.2, .ref a2, g11, g12, g13, g14, g15, g16, g17, g18, g19, g20, g21, .ref a3, g22, .ref a4, .ref a5, .int m_h.2.2.1, .int m_h.2.2.2, g23, g24, g25, g26, g27, g28, g29, g30, g31])) :: bX11 a2 uq kq q_q ([(a3, .inl (cB33, 26, .inl m_v)), (a4, .inl (cB34, 416, .inl m_h.1)), (a5, .inl (cB35, 78, .inl m_h.2.1))])) [18, 3, 4, 5, 6, 7, 8, 9, 10, 11, 12, 13, 14, 15, 16, 17, 0, 1, 2] hP hD (by decide) rfl
    have hK9 := hK.sub (tys' := []) [] rfl
    rw [hQQ]
    exact W.zret (v := (0 : Int32)) hx hb hr rfl (fun t ht hW => ⟨⟨(0 : Int32), (), rfl, ⟨rfl, (by decide)⟩, by rw [ht]; exact hP9, va_K.moved hW.alike hK9, hD9⟩, hS.F ht⟩) hS.2.2 (zat zrX12_drawIn_0_ok 10 rfl)
noncomputable def zrX12_isAnswer_0 : List ZR := zc 0 true (.aload_n 0) 1 (zc 1 true (.getfield 299) 3 (zc 4 true (.ifnull 22) 3 (zc 7 true (.iload_n 1) 1 (zc 8 true (.ifCond .lt 18) 3 (zc 11 true (.iload_n 1) 1 (zc 12 true (.aload_n 0) 1 (zc 13 true (.getfield 299) 3 (zc 16 true (.getfield 231) 3 (zc 19 true (.if_icmp .ge 7) 3 (zc 22 true (.iconst 1) 1 (zc 23 true (.goto 4) 3 (zc 26 true (.iconst 0) 1 (zc 27 true (.ireturn) 1 ([]))))))))))))))
theorem zrX12_isAnswer_0_ok : zck 0 ((zby cX12_isAnswer).drop 0) zrX12_isAnswer_0 = true := by decide +kernel
def vfX12_isAnswer : List Cond := List.cons (.code yX12_isAnswer cX12_isAnswer 2 (some .boolean)) (apW [.fieldLink RX12 299 "HookPierModel" "pier" "LHookPierModel$Pier;"] (apW wsX120 (wsX110)))
theorem ifX12_isAnswer_X12 : ∀ w ∈ wsX120, w ∈ vfX12_isAnswer := fun _ h => (List.mem_cons_of_mem _ (List.mem_append_right _ (List.mem_append_left _ h)))
theorem ifX12_isAnswer_X11 : ∀ w ∈ wsX110, w ∈ vfX12_isAnswer := fun _ h => (List.mem_cons_of_mem _ (List.mem_append_right _ (List.mem_append_right _ h)))
theorem qfX12_isAnswer : Good vfX12_isAnswer := gd_cons (by decide +kernel) (gd_app (gd_dec (by decide +kernel) : Good [.fieldLink RX12 299 "HookPierModel" "pier" "LHookPierModel$Pier;"]) (gd_app qsX12 qsX11))
set_option maxHeartbeats 2000000 in
set_option maxRecDepth 100000 in
theorem kfX12_isAnswer (l : Launch) (dC : Nat → ClassId) (dI : Nat → Nat → Nat) (a0 : Nat) (k1 : Int32) (a2 : Nat) (uq : Nat → Nat) (kq : Nat → ClassId) (g5 : Value) (g6 : Value) (g7 : Value) (g8 : Value) (g9 : Value) (g10 : Value) (g11 : Value) (g12 : Value) (g13 : Value) (g14 : Value) (g15 : Value) (g16 : Value) (g17 : Value) (g18 : Value) (g19 : Value) (g20 : Value) (g21 : Value) (g22 : Value) (g23 : Value) (g24 : Value) (g25 : Value) (g26 : Value) (g27 : Value) (g28 : Value) (g29 : Value) (g30 : Value) (g31 : Value) (g32 : Value) (g33 : Value) (q_q : TX11_q) (sz : Nat) (out : Int32) (h : f_X12_isAnswer k1 q_q = out) : KDi l yX12_isAnswer vfX12_isAnswer ({ frames := 0, cells := 0, slots := 0, locals := 0 }) (dC, dI) [.ref a0, .int k1] sz ((a0, .inr (9, [g5, g6, g7, .ref a2, g8, g9, g10, g11, g12, g13, g14, g15, g16, g17, g18, g19, g20, g21, g22, g23, g24, g25, g26, g27, g28, g29, g30, g31, g32, g33])) :: bX11 a2 uq kq q_q []) (tX11 kq ([])) (fun (r : Int32) _ => r = out ∧ (0 ≤ r.toInt ∧ r.toInt ≤ 1)) 0 0 := by
  refine Met.ofW (cc := cX12_isAnswer) (maxL := 2) (ret := (some .boolean)) (by decide) rfl ?_
  intro p e s m args below meth c s₁ B0 hml hv
  obtain ⟨rfl, hsz, hP, hK, hD0, hN⟩ := hv
  have hx := B0.exec
  have hb := B0.bytes
  have hr := B0.returns
  have hts := atoms_spec (ws := vfX12_isAnswer) B0.pre
  have hown : s.vm.findClass RX12 = some m.cls := findClass_of_methodNamed B0.named
  have hlocks := B0.notSynchronized
  subst hsz
  have hD := hD0.self (sz := s.heap.size)
  generalize hAe : va_A ((a0, .inr (9, [g5, g6, g7, .ref a2, g8, g9, g10, g11, g12, g13, g14, g15, g16, g17, g18, g19, g20, g21, g22, g23, g24, g25, g26, g27, g28, g29, g30, g31, g32, g33])) :: bX11 a2 uq kq q_q []) s.heap.size = A at hD ⊢
  have hA : ∀ q : Nat, s.heap.size ≤ q → A q := fun q h => by rw [← hAe]; exact Or.inr h
  have hS : va_S A s.heap s.heap [] := va_S.rf
  have hP : va_P (dC, dI) vwCl ((a0, .inr (9, [g5, g6, g7, .ref a2, g8, g9, g10, g11, g12, g13, g14, g15, g16, g17, g18, g19, g20, g21, g22, g23, g24, g25, g26, g27, g28, g29, g30, g31, g32, g33])) :: bX11 a2 uq kq q_q []) s.heap := hP
  have hl := lv_entry ([.ref a0, .int k1]) (n := 2) (Nat.le_of_ble_eq_true rfl)
  rw [lg_entry_eq]
  generalize (lg_sl ([.ref a0, .int k1]) ++ List.replicate (2 - (lg_sl ([.ref a0, .int k1])).length) Slot.unset).toArray = ls at hl ⊢
  have hl : lv_has ls 2 [(0, .ref a0), (1, .int k1)] := hl
  refine W_q (fun QQ hQQ => ?_)
  rw [f_X12_isAnswer] at h
  refine lv_aload_n hx hb (zat zrX12_isAnswer_0_ok 0 rfl) rfl (lv_at hl 0 rfl) ?_
  refine va_get (D := (dC, dI)) (ci := 9) (v := .ref a2) (C := RX12) (T := TX12) (N := 30) hx hb hts ifX12_isAnswer_X12 hown hK hP 0 rfl rfl 3 (by decide) (hts (.fieldLink RX12 299 "HookPierModel" "pier" "LHookPierModel$Pier;") (List.mem_of_getElem? (i := 1) rfl)) (fun _ h9 => h9) rfl (zat zrX12_isAnswer_0_ok 1 rfl) ?_
  refine lv_ifnull hx hb (zat zrX12_isAnswer_0_ok 2 rfl) ?_
  refine lv_iload_n hx hb (zat zrX12_isAnswer_0_ok 3 rfl) rfl (lv_at hl 1 rfl) ?_
  refine lv_if_lt (tgt := 26) hx hb (zat zrX12_isAnswer_0_ok 4 rfl) (by decide) (fun c8 => ?_) (fun c8 => ?_)
  · have h := (if_pos c8).symm.trans h
    refine lv_iconst (v := 0) hx hb (zat zrX12_isAnswer_0_ok 12 rfl) (by decide) ?_
    obtain rfl := h
    obtain ⟨hP9, hD9⟩ := pd_sub ((a0, .inr (9, [g5, g6, g7, .ref a2, g8, g9, g10, g11, g12, g13, g14, g15, g16, g17, g18, g19, g20, g21, g22, g23, g24, g25, g26, g27, g28, g29, g30, g31, g32, g33])) :: bX11 a2 uq kq q_q []) [0, 1, 2, 3, 4, 5, 6, 7, 8, 9, 10, 11, 12, 13, 14, 15] hP hD (by decide) rfl
    have hK9 := hK.sub (tys' := []) [] rfl
    rw [hQQ]
    exact W.zret (v := (0 : Int32)) hx hb hr rfl (fun t ht hW => ⟨⟨(0 : Int32), (), rfl, ⟨rfl, (by decide)⟩, by rw [ht]; exact hP9, va_K.moved hW.alike hK9, hD9⟩, hS.F ht⟩) hS.2.2 (zat zrX12_isAnswer_0_ok 13 rfl)
  · have h := (if_neg c8).symm.trans h
    refine lv_iload_n hx hb (zat zrX12_isAnswer_0_ok 5 rfl) rfl (lv_at hl 1 rfl) ?_
    refine lv_aload_n hx hb (zat zrX12_isAnswer_0_ok 6 rfl) rfl (lv_at hl 0 rfl) ?_
    refine va_get (D := (dC, dI)) (ci := 9) (v := .ref a2) (C := RX12) (T := TX12) (N := 30) hx hb hts ifX12_isAnswer_X12 hown hK hP 0 rfl rfl 3 (by decide) (hts (.fieldLink RX12 299 "HookPierModel" "pier" "LHookPierModel$Pier;") (List.mem_of_getElem? (i := 1) rfl)) (fun _ h9 => h9) rfl (zat zrX12_isAnswer_0_ok 7 rfl) ?_
    refine va_getN (D := (dC, dI)) (ci := 8) (v := .int q_q.2.2.2.2.2.2.1) (C := RX11) (T := TX11) (N := 24) hx hb hts ifX12_isAnswer_X11 hown hK hP 1 rfl rfl 6 (by decide) (va_Nw.use rfl (hN.1 (.fieldLinkNest RX12 231 "HookPierModel$Pier" "answers" "I" "HookPierModel") (List.mem_of_getElem? (i := 28) rfl))) (fun _ h9 => h9) rfl (zat zrX12_isAnswer_0_ok 8 rfl) ?_
    refine lv_icmp_ge (tgt := 26) hx hb (zat zrX12_isAnswer_0_ok 9 rfl) (by decide) (fun c19 => ?_) (fun c19 => ?_)
    · have h := (if_pos c19).symm.trans h
      refine lv_iconst (v := 0) hx hb (zat zrX12_isAnswer_0_ok 12 rfl) (by decide) ?_
      obtain rfl := h
      obtain ⟨hP9, hD9⟩ := pd_sub ((a0, .inr (9, [g5, g6, g7, .ref a2, g8, g9, g10, g11, g12, g13, g14, g15, g16, g17, g18, g19, g20, g21, g22, g23, g24, g25, g26, g27, g28, g29, g30, g31, g32, g33])) :: bX11 a2 uq kq q_q []) [0, 1, 2, 3, 4, 5, 6, 7, 8, 9, 10, 11, 12, 13, 14, 15] hP hD (by decide) rfl
      have hK9 := hK.sub (tys' := []) [] rfl
      rw [hQQ]
      exact W.zret (v := (0 : Int32)) hx hb hr rfl (fun t ht hW => ⟨⟨(0 : Int32), (), rfl, ⟨rfl, (by decide)⟩, by rw [ht]; exact hP9, va_K.moved hW.alike hK9, hD9⟩, hS.F ht⟩) hS.2.2 (zat zrX12_isAnswer_0_ok 13 rfl)
    · have h := (if_neg c19).symm.trans h
      refine lv_iconst (v := 1) hx hb (zat zrX12_isAnswer_0_ok 10 rfl) (by decide) ?_
      refine lv_goto (tgt := 27) hx hb (zat zrX12_isAnswer_0_ok 11 rfl) (by decide) ?_
      obtain rfl := h
      obtain ⟨hP9, hD9⟩ := pd_sub ((a0, .inr (9, [g5, g6, g7, .ref a2, g8, g9, g10, g11, g12, g13, g14, g15, g16, g17, g18, g19, g20, g21, g22, g23, g24, g25, g26, g27, g28, g29, g30, g31, g32, g33])) :: bX11 a2 uq kq q_q []) [0, 1, 2, 3, 4, 5, 6, 7, 8, 9, 10, 11, 12, 13, 14, 15] hP hD (by decide) rfl
      have hK9 := hK.sub (tys' := []) [] rfl
      rw [hQQ]
      exact W.zret (v := (1 : Int32)) hx hb hr rfl (fun t ht hW => ⟨⟨(1 : Int32), (), rfl, ⟨rfl, (by decide)⟩, by rw [ht]; exact hP9, va_K.moved hW.alike hK9, hD9⟩, hS.F ht⟩) hS.2.2 (zat zrX12_isAnswer_0_ok 13 rfl)
noncomputable def zrX12_keeps_0 : List ZR := zc 0 true (.iload_n 3) 1 (zc 1 true (.iload_n 2) 1 (zc 2 true (.isub) 1 (zc 3 true (.istore 4) 2 (zc 5 true (.aload_n 0) 1 (zc 6 true (.getfield 299) 3 (zc 9 true (.getfield 256) 3 (zc 12 true (.iload_n 1) 1 (zc 13 true (.iaload) 1 (zc 14 false (.nop) 26 (zc 40 true (.aload_n 0) 1 (zc 41 true (.getfield 299) 3 (zc 44 true (.getfield 267) 3 (zc 47 true (.iload_n 1) 1 (zc 48 true (.iaload) 1 (zc 49 true (.ireturn) 1 (zc 50 true (.aload_n 0) 1 (zc 51 true (.getfield 299) 3 (zc 54 true (.getfield 267) 3 (zc 57 true (.iload_n 1) 1 (zc 58 true (.iaload) 1 (zc 59 true (.iload 4) 2 (zc 61 true (.iadd) 1 (zc 62 true (.bipush 99) 2 (zc 64 true (.if_icmp .ge 18) 3 (zc 67 true (.aload_n 0) 1 (zc 68 true (.getfield 299) 3 (zc 71 true (.getfield 267) 3 (zc 74 true (.iload_n 1) 1 (zc 75 true (.iaload) 1 (zc 76 true (.iload 4) 2 (zc 78 true (.iadd) 1 (zc 79 true (.goto 5) 3 (zc 82 true (.bipush 99) 2 (zc 84 true (.ireturn) 1 (zc 85 true (.aload_n 0) 1 (zc 86 true (.getfield 299) 3 (zc 89 true (.getfield 267) 3 (zc 92 true (.iload_n 1) 1 (zc 93 true (.iaload) 1 (zc 94 true (.iconst 5) 1 (zc 95 true (.iload 4) 2 (zc 97 true (.imul) 1 (zc 98 true (.if_icmp .le 20) 3 (zc 101 true (.aload_n 0) 1 (zc 102 true (.getfield 299) 3 (zc 105 true (.getfield 267) 3 (zc 108 true (.iload_n 1) 1 (zc 109 true (.iaload) 1 (zc 110 true (.iconst 5) 1 (zc 111 true (.iload 4) 2 (zc 113 true (.imul) 1 (zc 114 true (.isub) 1 (zc 115 true (.goto 4) 3 (zc 118 true (.iconst 0) 1 (zc 119 true (.ireturn) 1 ([]))))))))))))))))))))))))))))))))))))))))))))))))))))))))
theorem zrX12_keeps_0_ok : zck 0 ((zby cX12_keeps).drop 0) zrX12_keeps_0 = true := by decide +kernel
theorem dX12_keeps_14 : decode cX12_keeps 14 = .ok (.lookupswitch 71 #[(1, 26), (3, 36)], 26) := by decide +kernel
def vfX12_keeps : List Cond := List.cons (.code yX12_keeps cX12_keeps 5 (some .int)) (apW [.fieldLink RX12 299 "HookPierModel" "pier" "LHookPierModel$Pier;"] (apW wsX120 (wsX110)))
theorem ifX12_keeps_X12 : ∀ w ∈ wsX120, w ∈ vfX12_keeps := fun _ h => (List.mem_cons_of_mem _ (List.mem_append_right _ (List.mem_append_left _ h)))
theorem ifX12_keeps_X11 : ∀ w ∈ wsX110, w ∈ vfX12_keeps := fun _ h => (List.mem_cons_of_mem _ (List.mem_append_right _ (List.mem_append_right _ h)))
theorem qfX12_keeps : Good vfX12_keeps := gd_cons (by decide +kernel) (gd_app (gd_dec (by decide +kernel) : Good [.fieldLink RX12 299 "HookPierModel" "pier" "LHookPierModel$Pier;"]) (gd_app qsX12 qsX11))
set_option maxHeartbeats 2000000 in
set_option maxRecDepth 100000 in
theorem kfX12_keeps (l : Launch) (dC : Nat → ClassId) (dI : Nat → Nat → Nat) (a0 : Nat) (k1 : Int32) (k2 : Int32) (k3 : Int32) (a4 : Nat) (uq : Nat → Nat) (kq : Nat → ClassId) (g7 : Value) (g8 : Value) (g9 : Value) (g10 : Value) (g11 : Value) (g12 : Value) (g13 : Value) (g14 : Value) (g15 : Value) (g16 : Value) (g17 : Value) (g18 : Value) (g19 : Value) (g20 : Value) (g21 : Value) (g22 : Value) (g23 : Value) (g24 : Value) (g25 : Value) (g26 : Value) (g27 : Value) (g28 : Value) (g29 : Value) (g30 : Value) (g31 : Value) (g32 : Value) (g33 : Value) (g34 : Value) (g35 : Value) (q_q : TX11_q) (sz : Nat) (out : Int32) (h : f_X12_keeps k1 k2 k3 q_q = some out) : KDi l yX12_keeps vfX12_keeps ({ frames := 0, cells := 0, slots := 0, locals := 0 }) (dC, dI) [.ref a0, .int k1, .int k2, .int k3] sz ((a0, .inr (9, [g7, g8, g9, .ref a4, g10, g11, g12, g13, g14, g15, g16, g17, g18, g19, g20, g21, g22, g23, g24, g25, g26, g27, g28, g29, g30, g31, g32, g33, g34, g35])) :: bX11 a4 uq kq q_q []) (tX11 kq ([])) (fun (r : Int32) _ => r = out) 0 0 := by
  refine Met.ofW (cc := cX12_keeps) (maxL := 5) (ret := (some .int)) (by decide) rfl ?_
  intro p e s m args below meth c s₁ B0 hml hv
  obtain ⟨rfl, hsz, hP, hK, hD0, hN⟩ := hv
  have hx := B0.exec
  have hb := B0.bytes
  have hr := B0.returns
  have hts := atoms_spec (ws := vfX12_keeps) B0.pre
  have hown : s.vm.findClass RX12 = some m.cls := findClass_of_methodNamed B0.named
  have hlocks := B0.notSynchronized
  subst hsz
  have hD := hD0.self (sz := s.heap.size)
  generalize hAe : va_A ((a0, .inr (9, [g7, g8, g9, .ref a4, g10, g11, g12, g13, g14, g15, g16, g17, g18, g19, g20, g21, g22, g23, g24, g25, g26, g27, g28, g29, g30, g31, g32, g33, g34, g35])) :: bX11 a4 uq kq q_q []) s.heap.size = A at hD ⊢
  have hA : ∀ q : Nat, s.heap.size ≤ q → A q := fun q h => by rw [← hAe]; exact Or.inr h
  have hS : va_S A s.heap s.heap [] := va_S.rf
  have hP : va_P (dC, dI) vwCl ((a0, .inr (9, [g7, g8, g9, .ref a4, g10, g11, g12, g13, g14, g15, g16, g17, g18, g19, g20, g21, g22, g23, g24, g25, g26, g27, g28, g29, g30, g31, g32, g33, g34, g35])) :: bX11 a4 uq kq q_q []) s.heap := hP
  have hl := lv_entry ([.ref a0, .int k1, .int k2, .int k3]) (n := 5) (Nat.le_of_ble_eq_true rfl)
  rw [lg_entry_eq]
  generalize (lg_sl ([.ref a0, .int k1, .int k2, .int k3]) ++ List.replicate (5 - (lg_sl ([.ref a0, .int k1, .int k2, .int k3])).length) Slot.unset).toArray = ls at hl ⊢
  have hl : lv_has ls 5 [(0, .ref a0), (1, .int k1), (2, .int k2), (3, .int k3)] := hl
  refine W_q (fun QQ hQQ => ?_)
  rw [f_X12_keeps] at h
  refine lv_iload_n hx hb (zat zrX12_keeps_0_ok 0 rfl) rfl (lv_at hl 3 rfl) ?_
  refine lv_iload_n hx hb (zat zrX12_keeps_0_ok 1 rfl) rfl (lv_at hl 2 rfl) ?_
  refine lv_isub hx hb (zat zrX12_keeps_0_ok 2 rfl) ?_
  refine lv_istore (lv' := [(4, .int (k3 - k2)), (0, .ref a0), (1, .int k1), (2, .int k2), (3, .int k3)]) hx hb (zat zrX12_keeps_0_ok 3 rfl) hl (by decide) rfl (fun ls hl => ?_)
  refine lv_aload_n hx hb (zat zrX12_keeps_0_ok 4 rfl) rfl (lv_at hl 1 rfl) ?_
  refine va_get (D := (dC, dI)) (ci := 9) (v := .ref a4) (C := RX12) (T := TX12) (N := 30) hx hb hts ifX12_keeps_X12 hown hK hP 0 rfl rfl 3 (by decide) (hts (.fieldLink RX12 299 "HookPierModel" "pier" "LHookPierModel$Pier;") (List.mem_of_getElem? (i := 1) rfl)) (fun _ h9 => h9) rfl (zat zrX12_keeps_0_ok 5 rfl) ?_
  refine va_getN (D := (dC, dI)) (ci := 8) (v := .ref (uq 1)) (C := RX11) (T := TX11) (N := 24) hx hb hts ifX12_keeps_X11 hown hK hP 1 rfl rfl 11 (by decide) (va_Nw.use rfl (hN.1 (.fieldLinkNest RX12 256 "HookPierModel$Pier" "kind" "[I" "HookPierModel") (List.mem_of_getElem? (i := 33) rfl))) (fun _ h9 => h9) rfl (zat zrX12_keeps_0_ok 6 rfl) ?_
  refine lv_iload_n hx hb (zat zrX12_keeps_0_ok 7 rfl) rfl (lv_at hl 2 rfl) ?_
  obtain ⟨hg13, h⟩ := gA_of h
  refine va_iald hx hb hK hP 3 1 rfl rfl hg13 (zat zrX12_keeps_0_ok 8 rfl) ?_
  by_cases c14_0 : (q_q.2.2.2.2.2.2.2.2.2.2.2.1 (k1).toNatClampNeg) = 1
  · have h := (if_pos c14_0).symm.trans h
    refine lv_lookup (tgt := 40) hx hb dX12_keeps_14 (by decide) (by rw [c14_0] <;> rfl) (by decide) ?_
    refine lv_aload_n hx hb (zat zrX12_keeps_0_ok 10 rfl) rfl (lv_at hl 1 rfl) ?_
    refine va_get (D := (dC, dI)) (ci := 9) (v := .ref a4) (C := RX12) (T := TX12) (N := 30) hx hb hts ifX12_keeps_X12 hown hK hP 0 rfl rfl 3 (by decide) (hts (.fieldLink RX12 299 "HookPierModel" "pier" "LHookPierModel$Pier;") (List.mem_of_getElem? (i := 1) rfl)) (fun _ h9 => h9) rfl (zat zrX12_keeps_0_ok 11 rfl) ?_
    refine va_getN (D := (dC, dI)) (ci := 8) (v := .ref (uq 6)) (C := RX11) (T := TX11) (N := 24) hx hb hts ifX12_keeps_X11 hown hK hP 1 rfl rfl 16 (by decide) (va_Nw.use rfl (hN.1 (.fieldLinkNest RX12 267 "HookPierModel$Pier" "worth" "[I" "HookPierModel") (List.mem_of_getElem? (i := 38) rfl))) (fun _ h9 => h9) rfl (zat zrX12_keeps_0_ok 12 rfl) ?_
    refine lv_iload_n hx hb (zat zrX12_keeps_0_ok 13 rfl) rfl (lv_at hl 2 rfl) ?_
    obtain ⟨hg48, h⟩ := gA_of h
    refine va_iald hx hb hK hP 8 6 rfl rfl hg48 (zat zrX12_keeps_0_ok 14 rfl) ?_
    obtain rfl := Option.some.inj h
    obtain ⟨hP9, hD9⟩ := pd_sub ((a0, .inr (9, [g7, g8, g9, .ref a4, g10, g11, g12, g13, g14, g15, g16, g17, g18, g19, g20, g21, g22, g23, g24, g25, g26, g27, g28, g29, g30, g31, g32, g33, g34, g35])) :: bX11 a4 uq kq q_q []) [0, 1, 2, 3, 4, 5, 6, 7, 8, 9, 10, 11, 12, 13, 14, 15] hP hD (by decide) rfl
    have hK9 := hK.sub (tys' := []) [] rfl
    rw [hQQ]
    exact W.iret (v := (q_q.2.2.2.2.2.2.2.2.2.2.2.2.2.2.2.2.1 (k1).toNatClampNeg)) hx hb hr (fun t ht hW => ⟨⟨(q_q.2.2.2.2.2.2.2.2.2.2.2.2.2.2.2.2.1 (k1).toNatClampNeg), (), rfl, rfl, by rw [ht]; exact hP9, va_K.moved hW.alike hK9, hD9⟩, hS.F ht⟩) hS.2.2 (zat zrX12_keeps_0_ok 15 rfl)
  have h := (if_neg c14_0).symm.trans h
  by_cases c14_1 : (q_q.2.2.2.2.2.2.2.2.2.2.2.1 (k1).toNatClampNeg) = 3
  · have h := (if_pos c14_1).symm.trans h
    refine lv_lookup (tgt := 50) hx hb dX12_keeps_14 (by decide) (by rw [c14_1] <;> rfl) (by decide) ?_
    refine lv_aload_n hx hb (zat zrX12_keeps_0_ok 16 rfl) rfl (lv_at hl 1 rfl) ?_
    refine va_get (D := (dC, dI)) (ci := 9) (v := .ref a4) (C := RX12) (T := TX12) (N := 30) hx hb hts ifX12_keeps_X12 hown hK hP 0 rfl rfl 3 (by decide) (hts (.fieldLink RX12 299 "HookPierModel" "pier" "LHookPierModel$Pier;") (List.mem_of_getElem? (i := 1) rfl)) (fun _ h9 => h9) rfl (zat zrX12_keeps_0_ok 17 rfl) ?_
    refine va_getN (D := (dC, dI)) (ci := 8) (v := .ref (uq 6)) (C := RX11) (T := TX11) (N := 24) hx hb hts ifX12_keeps_X11 hown hK hP 1 rfl rfl 16 (by decide) (va_Nw.use rfl (hN.1 (.fieldLinkNest RX12 267 "HookPierModel$Pier" "worth" "[I" "HookPierModel") (List.mem_of_getElem? (i := 38) rfl))) (fun _ h9 => h9) rfl (zat zrX12_keeps_0_ok 18 rfl) ?_
    refine lv_iload_n hx hb (zat zrX12_keeps_0_ok 19 rfl) rfl (lv_at hl 2 rfl) ?_
    obtain ⟨hg58, h⟩ := gA_of h
    refine va_iald hx hb hK hP 8 6 rfl rfl hg58 (zat zrX12_keeps_0_ok 20 rfl) ?_
    refine lv_iload hx hb (zat zrX12_keeps_0_ok 21 rfl) (lv_at hl 0 rfl) ?_
    refine lv_iadd hx hb (zat zrX12_keeps_0_ok 22 rfl) ?_
    refine lv_topi (fun z61 ez61 => ?_)
    have h := nm_of h z61 ez61
    refine lv_bipush (v := 99) hx hb (zat zrX12_keeps_0_ok 23 rfl) (by decide) ?_
    refine lv_icmp_ge (tgt := 82) hx hb (zat zrX12_keeps_0_ok 24 rfl) (by decide) (fun c64 => ?_) (fun c64 => ?_)
    · have h := (if_pos c64).symm.trans h
      refine lv_bipush (v := 99) hx hb (zat zrX12_keeps_0_ok 33 rfl) (by decide) ?_
      obtain rfl := Option.some.inj h
      obtain ⟨hP9, hD9⟩ := pd_sub ((a0, .inr (9, [g7, g8, g9, .ref a4, g10, g11, g12, g13, g14, g15, g16, g17, g18, g19, g20, g21, g22, g23, g24, g25, g26, g27, g28, g29, g30, g31, g32, g33, g34, g35])) :: bX11 a4 uq kq q_q []) [0, 1, 2, 3, 4, 5, 6, 7, 8, 9, 10, 11, 12, 13, 14, 15] hP hD (by decide) rfl
      have hK9 := hK.sub (tys' := []) [] rfl
      rw [hQQ]
      exact W.iret (v := (99 : Int32)) hx hb hr (fun t ht hW => ⟨⟨(99 : Int32), (), rfl, rfl, by rw [ht]; exact hP9, va_K.moved hW.alike hK9, hD9⟩, hS.F ht⟩) hS.2.2 (zat zrX12_keeps_0_ok 34 rfl)
    · have h := (if_neg c64).symm.trans h
      refine lv_aload_n hx hb (zat zrX12_keeps_0_ok 25 rfl) rfl (lv_at hl 1 rfl) ?_
      refine va_get (D := (dC, dI)) (ci := 9) (v := .ref a4) (C := RX12) (T := TX12) (N := 30) hx hb hts ifX12_keeps_X12 hown hK hP 0 rfl rfl 3 (by decide) (hts (.fieldLink RX12 299 "HookPierModel" "pier" "LHookPierModel$Pier;") (List.mem_of_getElem? (i := 1) rfl)) (fun _ h9 => h9) rfl (zat zrX12_keeps_0_ok 26 rfl) ?_
      refine va_getN (D := (dC, dI)) (ci := 8) (v := .ref (uq 6)) (C := RX11) (T := TX11) (N := 24) hx hb hts ifX12_keeps_X11 hown hK hP 1 rfl rfl 16 (by decide) (va_Nw.use rfl (hN.1 (.fieldLinkNest RX12 267 "HookPierModel$Pier" "worth" "[I" "HookPierModel") (List.mem_of_getElem? (i := 38) rfl))) (fun _ h9 => h9) rfl (zat zrX12_keeps_0_ok 27 rfl) ?_
      refine lv_iload_n hx hb (zat zrX12_keeps_0_ok 28 rfl) rfl (lv_at hl 2 rfl) ?_
      obtain ⟨hg75, h⟩ := gA_of h
      refine va_iald hx hb hK hP 8 6 rfl rfl hg75 (zat zrX12_keeps_0_ok 29 rfl) ?_
      refine lv_iload hx hb (zat zrX12_keeps_0_ok 30 rfl) (lv_at hl 0 rfl) ?_
      refine lv_iadd hx hb (zat zrX12_keeps_0_ok 31 rfl) ?_
      refine lv_topi (fun z78 ez78 => ?_)
      have h := nm_of h z78 ez78
      refine lv_goto (tgt := 84) hx hb (zat zrX12_keeps_0_ok 32 rfl) (by decide) ?_
      obtain rfl := Option.some.inj h
      obtain ⟨hP9, hD9⟩ := pd_sub ((a0, .inr (9, [g7, g8, g9, .ref a4, g10, g11, g12, g13, g14, g15, g16, g17, g18, g19, g20, g21, g22, g23, g24, g25, g26, g27, g28, g29, g30, g31, g32, g33, g34, g35])) :: bX11 a4 uq kq q_q []) [0, 1, 2, 3, 4, 5, 6, 7, 8, 9, 10, 11, 12, 13, 14, 15] hP hD (by decide) rfl
      have hK9 := hK.sub (tys' := []) [] rfl
      rw [hQQ]
      exact W.iret (v := z78) hx hb hr (fun t ht hW => ⟨⟨z78, (), rfl, rfl, by rw [ht]; exact hP9, va_K.moved hW.alike hK9, hD9⟩, hS.F ht⟩) hS.2.2 (zat zrX12_keeps_0_ok 34 rfl)
  have h := (if_neg c14_1).symm.trans h
  refine lv_lookup (tgt := 85) (off := 71) hx hb dX12_keeps_14 (by decide) (by rw [show ∀ (z9 : Array (Int × Int)), z9.toList = z9.toList from fun _ => rfl]; show Op.lookupswitch.offset [(1, 26), (3, 36)] 71 ((q_q.2.2.2.2.2.2.2.2.2.2.2.1 (k1).toNatClampNeg)).toInt = 71; rw [lv_osw (k := 1) c14_0 (by decide), lv_osw (k := 3) c14_1 (by decide)]; rfl) (by decide) ?_
  refine lv_aload_n hx hb (zat zrX12_keeps_0_ok 35 rfl) rfl (lv_at hl 1 rfl) ?_
  refine va_get (D := (dC, dI)) (ci := 9) (v := .ref a4) (C := RX12) (T := TX12) (N := 30) hx hb hts ifX12_keeps_X12 hown hK hP 0 rfl rfl 3 (by decide) (hts (.fieldLink RX12 299 "HookPierModel" "pier" "LHookPierModel$Pier;") (List.mem_of_getElem? (i := 1) rfl)) (fun _ h9 => h9) rfl (zat zrX12_keeps_0_ok 36 rfl) ?_
  refine va_getN (D := (dC, dI)) (ci := 8) (v := .ref (uq 6)) (C := RX11) (T := TX11) (N := 24) hx hb hts ifX12_keeps_X11 hown hK hP 1 rfl rfl 16 (by decide) (va_Nw.use rfl (hN.1 (.fieldLinkNest RX12 267 "HookPierModel$Pier" "worth" "[I" "HookPierModel") (List.mem_of_getElem? (i := 38) rfl))) (fun _ h9 => h9) rfl (zat zrX12_keeps_0_ok 37 rfl) ?_
  refine lv_iload_n hx hb (zat zrX12_keeps_0_ok 38 rfl) rfl (lv_at hl 2 rfl) ?_
  obtain ⟨hg93, h⟩ := gA_of h
  refine va_iald hx hb hK hP 8 6 rfl rfl hg93 (zat zrX12_keeps_0_ok 39 rfl) ?_
  refine lv_iconst (v := 5) hx hb (zat zrX12_keeps_0_ok 40 rfl) (by decide) ?_
  refine lv_iload hx hb (zat zrX12_keeps_0_ok 41 rfl) (lv_at hl 0 rfl) ?_
  refine lv_imul hx hb (zat zrX12_keeps_0_ok 42 rfl) ?_
  refine lv_icmp_le (tgt := 118) hx hb (zat zrX12_keeps_0_ok 43 rfl) (by decide) (fun c98 => ?_) (fun c98 => ?_)
  · have h := (if_pos c98).symm.trans h
    refine lv_iconst (v := 0) hx hb (zat zrX12_keeps_0_ok 54 rfl) (by decide) ?_
    obtain rfl := Option.some.inj h
    obtain ⟨hP9, hD9⟩ := pd_sub ((a0, .inr (9, [g7, g8, g9, .ref a4, g10, g11, g12, g13, g14, g15, g16, g17, g18, g19, g20, g21, g22, g23, g24, g25, g26, g27, g28, g29, g30, g31, g32, g33, g34, g35])) :: bX11 a4 uq kq q_q []) [0, 1, 2, 3, 4, 5, 6, 7, 8, 9, 10, 11, 12, 13, 14, 15] hP hD (by decide) rfl
    have hK9 := hK.sub (tys' := []) [] rfl
    rw [hQQ]
    exact W.iret (v := (0 : Int32)) hx hb hr (fun t ht hW => ⟨⟨(0 : Int32), (), rfl, rfl, by rw [ht]; exact hP9, va_K.moved hW.alike hK9, hD9⟩, hS.F ht⟩) hS.2.2 (zat zrX12_keeps_0_ok 55 rfl)
  · have h := (if_neg c98).symm.trans h
    refine lv_aload_n hx hb (zat zrX12_keeps_0_ok 44 rfl) rfl (lv_at hl 1 rfl) ?_
    refine va_get (D := (dC, dI)) (ci := 9) (v := .ref a4) (C := RX12) (T := TX12) (N := 30) hx hb hts ifX12_keeps_X12 hown hK hP 0 rfl rfl 3 (by decide) (hts (.fieldLink RX12 299 "HookPierModel" "pier" "LHookPierModel$Pier;") (List.mem_of_getElem? (i := 1) rfl)) (fun _ h9 => h9) rfl (zat zrX12_keeps_0_ok 45 rfl) ?_
    refine va_getN (D := (dC, dI)) (ci := 8) (v := .ref (uq 6)) (C := RX11) (T := TX11) (N := 24) hx hb hts ifX12_keeps_X11 hown hK hP 1 rfl rfl 16 (by decide) (va_Nw.use rfl (hN.1 (.fieldLinkNest RX12 267 "HookPierModel$Pier" "worth" "[I" "HookPierModel") (List.mem_of_getElem? (i := 38) rfl))) (fun _ h9 => h9) rfl (zat zrX12_keeps_0_ok 46 rfl) ?_
    refine lv_iload_n hx hb (zat zrX12_keeps_0_ok 47 rfl) rfl (lv_at hl 2 rfl) ?_
    obtain ⟨hg109, h⟩ := gA_of h
    refine va_iald hx hb hK hP 8 6 rfl rfl hg109 (zat zrX12_keeps_0_ok 48 rfl) ?_
    refine lv_iconst (v := 5) hx hb (zat zrX12_keeps_0_ok 49 rfl) (by decide) ?_
    refine lv_iload hx hb (zat zrX12_keeps_0_ok 50 rfl) (lv_at hl 0 rfl) ?_
    refine lv_imul hx hb (zat zrX12_keeps_0_ok 51 rfl) ?_
    refine lv_isub hx hb (zat zrX12_keeps_0_ok 52 rfl) ?_
    refine lv_topi (fun z114 ez114 => ?_)
    have h := nm_of h z114 ez114
    refine lv_goto (tgt := 119) hx hb (zat zrX12_keeps_0_ok 53 rfl) (by decide) ?_
    obtain rfl := Option.some.inj h
    obtain ⟨hP9, hD9⟩ := pd_sub ((a0, .inr (9, [g7, g8, g9, .ref a4, g10, g11, g12, g13, g14, g15, g16, g17, g18, g19, g20, g21, g22, g23, g24, g25, g26, g27, g28, g29, g30, g31, g32, g33, g34, g35])) :: bX11 a4 uq kq q_q []) [0, 1, 2, 3, 4, 5, 6, 7, 8, 9, 10, 11, 12, 13, 14, 15] hP hD (by decide) rfl
    have hK9 := hK.sub (tys' := []) [] rfl
    rw [hQQ]
    exact W.iret (v := z114) hx hb hr (fun t ht hW => ⟨⟨z114, (), rfl, rfl, by rw [ht]; exact hP9, va_K.moved hW.alike hK9, hD9⟩, hS.F ht⟩) hS.2.2 (zat zrX12_keeps_0_ok 55 rfl)
noncomputable def zrX12_worthNow_0 : List ZR := zc 0 true (.aload_n 0) 1 (zc 1 true (.iload_n 1) 1 (zc 2 true (.aload_n 0) 1 (zc 3 true (.getfield 17) 3 (zc 6 true (.bipush 6) 2 (zc 8 true (.iload_n 1) 1 (zc 9 true (.iadd) 1 (zc 10 true (.iaload) 1 (zc 11 true (.aload_n 0) 1 (zc 12 true (.getfield 17) 3 (zc 15 true (.bipush 23) 2 (zc 17 true (.iaload) 1 (zc 18 true (.invokevirtual 323) 3 (zc 21 true (.ireturn) 1 ([]))))))))))))))
theorem zrX12_worthNow_0_ok : zck 0 ((zby cX12_worthNow).drop 0) zrX12_worthNow_0 = true := by decide +kernel
def vfX12_worthNow : List Cond := List.cons (.code yX12_worthNow cX12_worthNow 2 (some .int)) (apW [.fieldLink RX12 17 "HookPierModel" "v" "[I", .methodLink RX12 323 yX12_keeps, .instanceMethod yX12_keeps, .selects RX12 yX12_keeps yX12_keeps, .initialized RX12] (apW wsX120 (vfX12_keeps)))
theorem ifX12_worthNow_X12 : ∀ w ∈ wsX120, w ∈ vfX12_worthNow := fun _ h => (List.mem_cons_of_mem _ (List.mem_append_right _ (List.mem_append_left _ h)))
theorem qfX12_worthNow : Good vfX12_worthNow := gd_cons (by decide +kernel) (gd_app (gd_dec (by decide +kernel) : Good [.fieldLink RX12 17 "HookPierModel" "v" "[I", .methodLink RX12 323 yX12_keeps, .instanceMethod yX12_keeps, .selects RX12 yX12_keeps yX12_keeps, .initialized RX12]) (gd_app qsX12 qfX12_keeps))
theorem gfX12_worthNow_0 : GoodIn vfX12_worthNow (wsV RX12 323 RX12 yX12_keeps vfX12_keeps) := goodIn_app (goodIn_r [.methodLink RX12 323 yX12_keeps, .instanceMethod yX12_keeps, .selects RX12 yX12_keeps yX12_keeps, .initialized RX12] [2, 3, 4, 5] rfl (by decide +kernel)) (goodIn_m (fun _ h => (List.mem_cons_of_mem _ (List.mem_append_right _ (List.mem_append_right _ h)))) qfX12_keeps)
set_option maxHeartbeats 2000000 in
set_option maxRecDepth 100000 in
theorem kfX12_worthNow (l : Launch) (dC : Nat → ClassId) (dI : Nat → Nat → Nat) (a0 : Nat) (k1 : Int32) (a2 : Nat) (a3 : Nat) (uq : Nat → Nat) (kq : Nat → ClassId) (m_v : TX12_v) (g7 : Value) (g8 : Value) (g9 : Value) (g10 : Value) (g11 : Value) (g12 : Value) (g13 : Value) (g14 : Value) (g15 : Value) (g16 : Value) (g17 : Value) (g18 : Value) (g19 : Value) (g20 : Value) (g21 : Value) (g22 : Value) (g23 : Value) (g24 : Value) (g25 : Value) (g26 : Value) (g27 : Value) (g28 : Value) (g29 : Value) (g30 : Value) (g31 : Value) (g32 : Value) (g33 : Value) (g34 : Value) (q_q : TX11_q) (cB36 : ClassId) (sz : Nat) (out : Int32) (h : f_X12_worthNow k1 m_v q_q = some out) : KDi l yX12_worthNow vfX12_worthNow ({ frames := 1, cells := 0, slots := 0, locals := 24 }) (dC, dI) [.ref a0, .int k1] sz ((a0, .inr (9, [g7, g8, g9, .ref a2, g10, g11, g12, g13, g14, g15, g16, g17, g18, g19, g20, .ref a3, g21, g22, g23, g24, g25, g26, g27, g28, g29, g30, g31, g32, g33, g34])) :: bX11 a2 uq kq q_q ([(a3, .inl (cB36, 26, .inl m_v))])) (tX11 kq ((cB36, .int) :: [])) (fun (r : Int32) _ => r = out) 0 0 := by
  refine Met.ofW (cc := cX12_worthNow) (maxL := 2) (ret := (some .int)) (by decide) rfl ?_
  intro p e s m args below meth c s₁ B0 hml hv
  obtain ⟨rfl, hsz, hP, hK, hD0, hN⟩ := hv
  have hx := B0.exec
  have hb := B0.bytes
  have hr := B0.returns
  have hts := atoms_spec (ws := vfX12_worthNow) B0.pre
  have hown : s.vm.findClass RX12 = some m.cls := findClass_of_methodNamed B0.named
  have hlocks := B0.notSynchronized
  subst hsz
  have hD := hD0.self (sz := s.heap.size)
  generalize hAe : va_A ((a0, .inr (9, [g7, g8, g9, .ref a2, g10, g11, g12, g13, g14, g15, g16, g17, g18, g19, g20, .ref a3, g21, g22, g23, g24, g25, g26, g27, g28, g29, g30, g31, g32, g33, g34])) :: bX11 a2 uq kq q_q ([(a3, .inl (cB36, 26, .inl m_v))])) s.heap.size = A at hD ⊢
  have hA : ∀ q : Nat, s.heap.size ≤ q → A q := fun q h => by rw [← hAe]; exact Or.inr h
  have hS : va_S A s.heap s.heap [] := va_S.rf
  have hP : va_P (dC, dI) vwCl ((a0, .inr (9, [g7, g8, g9, .ref a2, g10, g11, g12, g13, g14, g15, g16, g17, g18, g19, g20, .ref a3, g21, g22, g23, g24, g25, g26, g27, g28, g29, g30, g31, g32, g33, g34])) :: bX11 a2 uq kq q_q ([(a3, .inl (cB36, 26, .inl m_v))])) s.heap := hP
  have hl := lv_entry ([.ref a0, .int k1]) (n := 2) (Nat.le_of_ble_eq_true rfl)
  rw [lg_entry_eq]
  generalize (lg_sl ([.ref a0, .int k1]) ++ List.replicate (2 - (lg_sl ([.ref a0, .int k1])).length) Slot.unset).toArray = ls at hl ⊢
  have hl : lv_has ls 2 [(0, .ref a0), (1, .int k1)] := hl
  refine W_q (fun QQ hQQ => ?_)
  rw [f_X12_worthNow] at h
  refine lv_aload_n hx hb (zat zrX12_worthNow_0_ok 0 rfl) rfl (lv_at hl 0 rfl) ?_
  refine lv_iload_n hx hb (zat zrX12_worthNow_0_ok 1 rfl) rfl (lv_at hl 1 rfl) ?_
  refine lv_aload_n hx hb (zat zrX12_worthNow_0_ok 2 rfl) rfl (lv_at hl 0 rfl) ?_
  refine va_get (D := (dC, dI)) (ci := 9) (v := .ref a3) (C := RX12) (T := TX12) (N := 30) hx hb hts ifX12_worthNow_X12 hown hK hP 0 rfl rfl 15 (by decide) (hts (.fieldLink RX12 17 "HookPierModel" "v" "[I") (List.mem_of_getElem? (i := 1) rfl)) (fun _ h9 => h9) rfl (zat zrX12_worthNow_0_ok 3 rfl) ?_
  refine lv_bipush (v := 6) hx hb (zat zrX12_worthNow_0_ok 4 rfl) (by decide) ?_
  refine lv_iload_n hx hb (zat zrX12_worthNow_0_ok 5 rfl) rfl (lv_at hl 1 rfl) ?_
  refine lv_iadd hx hb (zat zrX12_worthNow_0_ok 6 rfl) ?_
  obtain ⟨hg10, h⟩ := gA_of h
  refine va_iald hx hb hK hP 16 14 rfl rfl hg10 (zat zrX12_worthNow_0_ok 7 rfl) ?_
  refine lv_aload_n hx hb (zat zrX12_worthNow_0_ok 8 rfl) rfl (lv_at hl 0 rfl) ?_
  refine va_get (D := (dC, dI)) (ci := 9) (v := .ref a3) (C := RX12) (T := TX12) (N := 30) hx hb hts ifX12_worthNow_X12 hown hK hP 0 rfl rfl 15 (by decide) (hts (.fieldLink RX12 17 "HookPierModel" "v" "[I") (List.mem_of_getElem? (i := 1) rfl)) (fun _ h9 => h9) rfl (zat zrX12_worthNow_0_ok 9 rfl) ?_
  refine lv_bipush (v := 23) hx hb (zat zrX12_worthNow_0_ok 10 rfl) (by decide) ?_
  refine va_iald hx hb hK hP 16 14 rfl rfl (by unfold vp_in; decide) (zat zrX12_worthNow_0_ok 11 rfl) ?_
  obtain ⟨o18, eo18, h⟩ := bd_of h
  refine ck_i (wc := ((a0, .inr (9, [g7, g8, g9, .ref a2, g10, g11, g12, g13, g14, g15, g16, g17, g18, g19, g20, .ref a3, g21, g22, g23, g24, g25, g26, g27, g28, g29, g30, g31, g32, g33, g34])) :: bX11 a2 uq kq q_q [])) (wr := ([(a3, .inl (cB36, 26, .inl m_v))])) hP hD hK hS hA [0, 1, 2, 3, 4, 5, 6, 7, 8, 9, 10, 11, 12, 13, 14, 15] [16] rfl rfl (by decide) (by decide) (by decide) (fun hPc hDc => (va_runV (As := [.int k1, .int (m_v (((6 : Int32) + k1)).toNatClampNeg), .int (m_v ((23 : Int32)).toNatClampNeg)]) (rest := []) ⟨hx, hb, hml, hown, hts⟩ (kfX12_keeps l dC dI a0 k1 (m_v (((6 : Int32) + k1)).toNatClampNeg) (m_v ((23 : Int32)).toNatClampNeg) a2 uq kq (g7) (g8) (g9) (g10) (g11) (g12) (g13) (g14) (g15) (g16) (g17) (g18) (g19) (g20) (.ref a3) (g21) (g22) (g23) (g24) (g25) (g26) (g27) (g28) (g29) (g30) (g31) (g32) (g33) (g34) q_q s.heap.size o18 eo18) (cwV 3 hts gfX12_worthNow_0 rfl rfl rfl (by decide +kernel) ⟨(Nat.le_of_ble_eq_true rfl), (Nat.le_of_ble_eq_true rfl)⟩) (PV hPc (hK.sub (tys' := (tX11 kq ([]))) [0, 1, 2, 3, 4, 5, 6, 7, 8, 9, 10, 11, 12, 13] rfl) hDc hN 0 rfl rfl) rfl rfl hl.1 rfl (lv_room (Nat.le_of_ble_eq_true rfl)) (zat zrX12_worthNow_0_ok 12 rfl) ⟨(Nat.le_of_ble_eq_true rfl), (Nat.le_of_ble_eq_true rfl)⟩)) (fun r18 _ H locs hw hP hD _ hS => ?_)
  obtain rfl := hw.symm
  obtain ⟨hP, hD⟩ := pd_mk ((a3, .inl (cB36, 26, .inl m_v)) :: (a0, .inr (9, [g7, g8, g9, .ref a2, g10, g11, g12, g13, g14, g15, g16, g17, g18, g19, g20, .ref a3, g21, g22, g23, g24, g25, g26, g27, g28, g29, g30, g31, g32, g33, g34])) :: bX11 a2 uq kq q_q []) hP hD
  obtain rfl := Option.some.inj h
  obtain ⟨hP9, hD9⟩ := pd_sub ((a0, .inr (9, [g7, g8, g9, .ref a2, g10, g11, g12, g13, g14, g15, g16, g17, g18, g19, g20, .ref a3, g21, g22, g23, g24, g25, g26, g27, g28, g29, g30, g31, g32, g33, g34])) :: bX11 a2 uq kq q_q ([(a3, .inl (cB36, 26, .inl m_v))])) [1, 2, 3, 4, 5, 6, 7, 8, 9, 10, 11, 12, 13, 14, 15, 16, 0] hP hD (by decide) rfl
  have hK9 := hK.sub (tys' := []) [] rfl
  rw [hQQ]
  exact W.iret (v := o18) hx hb hr (fun t ht hW => ⟨⟨o18, (), rfl, rfl, by rw [ht]; exact hP9, va_K.moved hW.alike hK9, hD9⟩, hS.F ht⟩) hS.2.2 (zat zrX12_worthNow_0_ok 13 rfl)
