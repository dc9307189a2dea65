noncomputable def zrX12_landedIn_0 : List ZR := zc 0 true (.aload_n 0) 1 (zc 1 true (.iconst 0) 1 (zc 2 true (.putfield 36) 3 (zc 5 true (.aload_n 0) 1 (zc 6 true (.aload_n 0) 1 (zc 7 true (.iload_n 1) 1 (zc 8 true (.invokevirtual 320) 3 (zc 11 true (.iload_n 2) 1 (zc 12 true (.iload_n 3) 1 (zc 13 true (.invokevirtual 490) 3 (zc 16 true (.istore 4) 2 (zc 18 true (.iload 4) 2 (zc 20 true (.ifCond .le 10) 3 (zc 23 true (.aload_n 0) 1 (zc 24 true (.iload 4) 2 (zc 26 true (.invokevirtual 42) 3 (zc 29 true (.ireturn) 1 (zc 30 true (.aload_n 0) 1 (zc 31 true (.iload_n 2) 1 (zc 32 true (.iload_n 3) 1 (zc 33 true (.iload_n 1) 1 (zc 34 true (.invokevirtual 494) 3 (zc 37 true (.aload_n 0) 1 (zc 38 true (.aload_n 0) 1 (zc 39 true (.getfield 482) 3 (zc 42 true (.invokevirtual 46) 3 (zc 45 true (.ireturn) 1 ([])))))))))))))))))))))))))))
theorem zrX12_landedIn_0_ok : zck 0 ((zby cX12_landedIn).drop 0) zrX12_landedIn_0 = true := by decide +kernel
def vfX12_landedIn : List Cond := List.cons (.code yX12_landedIn cX12_landedIn 5 (some .int)) (apW [.fieldLink RX12 36 "HookPierModel" "thrown" "I", .methodLink RX12 320 yX12_isAnswer, .instanceMethod yX12_isAnswer, .selects RX12 yX12_isAnswer yX12_isAnswer, .initialized RX12, .methodLink RX12 490 yX12_refusesDays, .instanceMethod yX12_refusesDays, .selects RX12 yX12_refusesDays yX12_refusesDays, .methodLink RX12 494 yX12_days, .instanceMethod yX12_days, .selects RX12 yX12_days yX12_days, .fieldLink RX12 482 "HookPierModel" "landedWhen" "I", .methodLink RX12 46 yX12_good, .instanceMethod yX12_good, .selects RX12 yX12_good yX12_good, .methodLink RX12 42 yX12_refused, .instanceMethod yX12_refused, .selects RX12 yX12_refused yX12_refused] (apW wsX120 (apW vfX12_isAnswer (apW vfX12_refusesDays (apW vfX12_days (apW vfX12_good (vfX12_refused)))))))
theorem ifX12_landedIn_X12 : ∀ w ∈ wsX120, w ∈ vfX12_landedIn := fun _ h => (List.mem_cons_of_mem _ (List.mem_append_right _ (List.mem_append_left _ h)))
theorem qfX12_landedIn : Good vfX12_landedIn := gd_cons (by decide +kernel) (gd_app (gd_dec (by decide +kernel) : Good [.fieldLink RX12 36 "HookPierModel" "thrown" "I", .methodLink RX12 320 yX12_isAnswer, .instanceMethod yX12_isAnswer, .selects RX12 yX12_isAnswer yX12_isAnswer, .initialized RX12, .methodLink RX12 490 yX12_refusesDays, .instanceMethod yX12_refusesDays, .selects RX12 yX12_refusesDays yX12_refusesDays, .methodLink RX12 494 yX12_days, .instanceMethod yX12_days, .selects RX12 yX12_days yX12_days, .fieldLink RX12 482 "HookPierModel" "landedWhen" "I", .methodLink RX12 46 yX12_good, .instanceMethod yX12_good, .selects RX12 yX12_good yX12_good, .methodLink RX12 42 yX12_refused, .instanceMethod yX12_refused, .selects RX12 yX12_refused yX12_refused]) (gd_app qsX12 (gd_app qfX12_isAnswer (gd_app qfX12_refusesDays (gd_app qfX12_days (gd_app qfX12_good qfX12_refused))))))
theorem gfX12_landedIn_0 : GoodIn vfX12_landedIn (wsV RX12 320 RX12 yX12_isAnswer vfX12_isAnswer) := goodIn_app (goodIn_r [.methodLink RX12 320 yX12_isAnswer, .instanceMethod yX12_isAnswer, .selects RX12 yX12_isAnswer yX12_isAnswer, .initialized RX12] [2, 3, 4, 5] rfl (by decide +kernel)) (goodIn_m (fun _ h => (List.mem_cons_of_mem _ (List.mem_append_right _ (List.mem_append_right _ (List.mem_append_left _ h))))) qfX12_isAnswer)
theorem gfX12_landedIn_1 : GoodIn vfX12_landedIn (wsV RX12 490 RX12 yX12_refusesDays vfX12_refusesDays) := goodIn_app (goodIn_r [.methodLink RX12 490 yX12_refusesDays, .instanceMethod yX12_refusesDays, .selects RX12 yX12_refusesDays yX12_refusesDays, .initialized RX12] [6, 7, 8, 5] rfl (by decide +kernel)) (goodIn_m (fun _ h => (List.mem_cons_of_mem _ (List.mem_append_right _ (List.mem_append_right _ (List.mem_append_right _ (List.mem_append_left _ h)))))) qfX12_refusesDays)
theorem gfX12_landedIn_2 : GoodIn vfX12_landedIn (wsV RX12 494 RX12 yX12_days vfX12_days) := goodIn_app (goodIn_r [.methodLink RX12 494 yX12_days, .instanceMethod yX12_days, .selects RX12 yX12_days yX12_days, .initialized RX12] [9, 10, 11, 5] rfl (by decide +kernel)) (goodIn_m (fun _ h => (List.mem_cons_of_mem _ (List.mem_append_right _ (List.mem_append_right _ (List.mem_append_right _ (List.mem_append_right _ (List.mem_append_left _ h))))))) qfX12_days)
theorem gfX12_landedIn_3 : GoodIn vfX12_landedIn (wsV RX12 46 RX12 yX12_good vfX12_good) := goodIn_app (goodIn_r [.methodLink RX12 46 yX12_good, .instanceMethod yX12_good, .selects RX12 yX12_good yX12_good, .initialized RX12] [13, 14, 15, 5] rfl (by decide +kernel)) (goodIn_m (fun _ h => (List.mem_cons_of_mem _ (List.mem_append_right _ (List.mem_append_right _ (List.mem_append_right _ (List.mem_append_right _ (List.mem_append_right _ (List.mem_append_left _ h)))))))) qfX12_good)
theorem gfX12_landedIn_4 : GoodIn vfX12_landedIn (wsV RX12 42 RX12 yX12_refused vfX12_refused) := goodIn_app (goodIn_r [.methodLink RX12 42 yX12_refused, .instanceMethod yX12_refused, .selects RX12 yX12_refused yX12_refused, .initialized RX12] [16, 17, 18, 5] rfl (by decide +kernel)) (goodIn_m (fun _ h => (List.mem_cons_of_mem _ (List.mem_append_right _ (List.mem_append_right _ (List.mem_append_right _ (List.mem_append_right _ (List.mem_append_right _ (List.mem_append_right _ h)))))))) qfX12_refused)
set_option maxHeartbeats 2000000 in
set_option maxRecDepth 100000 in
theorem kfX12_landedIn (l : Launch) (dC : Nat → ClassId) (dI : Nat → Nat → Nat) (a0 : Nat) (k1 : Int32) (k2 : Int32) (k3 : Int32) (a4 : Nat) (a5 : Nat) (a6 : Nat) (uq : Nat → Nat) (kq : Nat → ClassId) (m_t : TX12_t) (m_v : TX12_v) (m_w : TX12_w) (m_c : TX12_c) (g13 : Value) (g14 : Value) (g15 : Value) (g16 : Value) (g17 : Value) (g18 : Value) (g19 : Value) (g20 : Value) (g21 : Value) (g22 : Value) (g23 : Value) (g24 : Value) (g25 : Value) (g26 : Value) (g27 : Value) (g28 : Value) (g29 : Value) (g30 : Value) (g31 : Value) (g32 : Value) (g33 : Value) (q_q : TX11_q) (cB35 : ClassId) (cB36 : ClassId) (sz : Nat) (out : (Int32 × TX12_t × TX12_w × TX12_c)) (h : f_X12_landedIn k1 k2 k3 m_t m_v m_w m_c q_q = some out) : KCi l yX12_landedIn vfX12_landedIn ({ frames := 7, cells := 0, slots := 0, locals := 165 }) (dC, dI) [.ref a0, .int k1, .int k2, .int k3] sz ((a0, .inr (9, [.int m_t.1, .int m_t.2.1, .int m_t.2.2, .ref a4, g13, g14, g15, g16, g17, g18, g19, g20, g21, g22, g23, .ref a5, .ref a6, g24, g25, g26, g27, g28, g29, g30, g31, g32, g33, .int m_c.1, .int m_c.2.1, .int m_c.2.2])) :: bX11 a4 uq kq q_q ([(a5, .inl (cB35, 26, .inl m_v)), (a6, .inl (cB36, 26, .inl m_w))])) (tX11 kq ((cB35, .int) :: (cB36, .int) :: [])) (fun (r : Int32) _ => r = out.1) ((a0, .inr (9, [.int out.2.1.1, .int out.2.1.2.1, .int out.2.1.2.2, .ref a4, g13, g14, g15, g16, g17, g18, g19, g20, g21, g22, g23, .ref a5, .ref a6, g24, g25, g26, g27, g28, g29, g30, g31, g32, g33, .int out.2.2.2.1, .int out.2.2.2.2.1, .int out.2.2.2.2.2])) :: bX11 a4 uq kq q_q ([(a5, .inl (cB35, 26, .inl m_v)), (a6, .inl (cB36, 26, .inl out.2.2.1))])) 0 0 := by
  refine Met.ofW (cc := cX12_landedIn) (maxL := 5) (ret := (some .int)) (by decide) rfl ?_
  intro p e s m args below meth c s₁ B0 hml hv
  obtain ⟨rfl, hsz, hP, hK, hD0, hN⟩ := hv
  have hx := B0.exec
  have hb := B0.bytes
  have hr := B0.returns
  have hts := atoms_spec (ws := vfX12_landedIn) B0.pre
  have hown : s.vm.findClass RX12 = some m.cls := findClass_of_methodNamed B0.named
  have hlocks := B0.notSynchronized
  subst hsz
  have hD := hD0.self (sz := s.heap.size)
  generalize hAe : va_A ((a0, .inr (9, [.int m_t.1, .int m_t.2.1, .int m_t.2.2, .ref a4, g13, g14, g15, g16, g17, g18, g19, g20, g21, g22, g23, .ref a5, .ref a6, g24, g25, g26, g27, g28, g29, g30, g31, g32, g33, .int m_c.1, .int m_c.2.1, .int m_c.2.2])) :: bX11 a4 uq kq q_q ([(a5, .inl (cB35, 26, .inl m_v)), (a6, .inl (cB36, 26, .inl m_w))])) s.heap.size = A at hD ⊢
  have hA : ∀ q : Nat, s.heap.size ≤ q → A q := fun q h => by rw [← hAe]; exact Or.inr h
  have hS : va_S A s.heap s.heap [] := va_S.rf
  have hP : va_P (dC, dI) vwCl ((a0, .inr (9, [.int m_t.1, .int m_t.2.1, .int m_t.2.2, .ref a4, g13, g14, g15, g16, g17, g18, g19, g20, g21, g22, g23, .ref a5, .ref a6, g24, g25, g26, g27, g28, g29, g30, g31, g32, g33, .int m_c.1, .int m_c.2.1, .int m_c.2.2])) :: bX11 a4 uq kq q_q ([(a5, .inl (cB35, 26, .inl m_v)), (a6, .inl (cB36, 26, .inl m_w))])) s.heap := hP
  have hl := lv_entry ([.ref a0, .int k1, .int k2, .int k3]) (n := 5) (Nat.le_of_ble_eq_true rfl)
  rw [lg_entry_eq]
  generalize (lg_sl ([.ref a0, .int k1, .int k2, .int k3]) ++ List.replicate (5 - (lg_sl ([.ref a0, .int k1, .int k2, .int k3])).length) Slot.unset).toArray = ls at hl ⊢
  have hl : lv_has ls 5 [(0, .ref a0), (1, .int k1), (2, .int k2), (3, .int k3)] := hl
  refine W_q (fun QQ hQQ => ?_)
  rw [f_X12_landedIn] at h
  refine lv_aload_n hx hb (zat zrX12_landedIn_0_ok 0 rfl) rfl (lv_at hl 0 rfl) ?_
  refine lv_iconst (v := 0) hx hb (zat zrX12_landedIn_0_ok 1 rfl) (by decide) ?_
  refine va_put (D := (dC, dI)) (ci := 9) (v := .int 0) (ty := .int) (C := RX12) (T := TX12) (N := 30) hx hb hts ifX12_landedIn_X12 tyX12 tyX12_ok nmX12 hown hK hP hD hS 0 rfl rfl 0 (by decide) (hts (.fieldLink RX12 36 "HookPierModel" "thrown" "I") (List.mem_of_getElem? (i := 1) rfl)) (fun _ h9 => h9) rfl (by decide +kernel) rfl rfl (Nat.le_of_ble_eq_true rfl) (zat zrX12_landedIn_0_ok 2 rfl) (fun H locs hP hD hS => ?_)
  obtain ⟨hP, hD⟩ := pd_mk ((a0, .inr (9, [.int 0, .int m_t.2.1, .int m_t.2.2, .ref a4, g13, g14, g15, g16, g17, g18, g19, g20, g21, g22, g23, .ref a5, .ref a6, g24, g25, g26, g27, g28, g29, g30, g31, g32, g33, .int m_c.1, .int m_c.2.1, .int m_c.2.2])) :: bX11 a4 uq kq q_q ([(a5, .inl (cB35, 26, .inl m_v)), (a6, .inl (cB36, 26, .inl m_w))])) hP hD
  refine lv_aload_n hx hb (zat zrX12_landedIn_0_ok 3 rfl) rfl (lv_at hl 0 rfl) ?_
  refine lv_aload_n hx hb (zat zrX12_landedIn_0_ok 4 rfl) rfl (lv_at hl 0 rfl) ?_
  refine lv_iload_n hx hb (zat zrX12_landedIn_0_ok 5 rfl) rfl (lv_at hl 1 rfl) ?_
  obtain ⟨o8, eo8⟩ : ∃ o, o = f_X12_isAnswer k1 q_q := ⟨_, rfl⟩
  have h := nm_of h o8 eo8
  refine ck_i (wc := ((a0, .inr (9, [.int 0, .int m_t.2.1, .int m_t.2.2, .ref a4, g13, g14, g15, g16, g17, g18, g19, g20, g21, g22, g23, .ref a5, .ref a6, g24, g25, g26, g27, g28, g29, g30, g31, g32, g33, .int m_c.1, .int m_c.2.1, .int m_c.2.2])) :: bX11 a4 uq kq q_q [])) (wr := ([(a5, .inl (cB35, 26, .inl m_v)), (a6, .inl (cB36, 26, .inl m_w))])) hP hD hK hS hA [0, 1, 2, 3, 4, 5, 6, 7, 8, 9, 10, 11, 12, 13, 14, 15] [16, 17] rfl rfl (by decide) (by decide) (by decide) (fun hPc hDc => (va_runV (As := [.int k1]) (rest := [.ref a0]) ⟨hx, hb, hml, hown, hts⟩ (kfX12_isAnswer l dC dI a0 k1 a4 uq kq (.int 0) (.int m_t.2.1) (.int m_t.2.2) (g13) (g14) (g15) (g16) (g17) (g18) (g19) (g20) (g21) (g22) (g23) (.ref a5) (.ref a6) (g24) (g25) (g26) (g27) (g28) (g29) (g30) (g31) (g32) (g33) (.int m_c.1) (.int m_c.2.1) (.int m_c.2.2) q_q H.size o8 eo8.symm) (cwV 1 hts gfX12_landedIn_0 rfl rfl rfl (by decide +kernel) ⟨(Nat.le_of_ble_eq_true rfl), (Nat.le_of_ble_eq_true rfl)⟩) (PV hPc (hK.sub (tys' := (tX11 kq ([]))) [0, 1, 2, 3, 4, 5, 6, 7, 8, 9, 10, 11, 12, 13] rfl) hDc hN 0 rfl rfl) rfl rfl hl.1 rfl (lv_room (Nat.le_of_ble_eq_true rfl)) (zat zrX12_landedIn_0_ok 6 rfl) ⟨(Nat.le_of_ble_eq_true rfl), (Nat.le_of_ble_eq_true rfl)⟩)) (fun r8 _ H locs hw hP hD _ hS => ?_)
  obtain ⟨hw, br8⟩ := hw
  obtain rfl := hw.symm
  obtain ⟨hP, hD⟩ := pd_mk ((a5, .inl (cB35, 26, .inl m_v)) :: (a6, .inl (cB36, 26, .inl m_w)) :: (a0, .inr (9, [.int 0, .int m_t.2.1, .int m_t.2.2, .ref a4, g13, g14, g15, g16, g17, g18, g19, g20, g21, g22, g23, .ref a5, .ref a6, g24, g25, g26, g27, g28, g29, g30, g31, g32, g33, .int m_c.1, .int m_c.2.1, .int m_c.2.2])) :: bX11 a4 uq kq q_q []) hP hD
  refine lv_iload_n hx hb (zat zrX12_landedIn_0_ok 7 rfl) rfl (lv_at hl 2 rfl) ?_
  refine lv_iload_n hx hb (zat zrX12_landedIn_0_ok 8 rfl) rfl (lv_at hl 3 rfl) ?_
  obtain ⟨o13, eo13⟩ : ∃ o, o = f_X12_refusesDays o8 k2 k3 := ⟨_, rfl⟩
  have h := nm_of h o13 eo13
  refine ck_i (wc := ([(a0, .inr (9, [.int 0, .int m_t.2.1, .int m_t.2.2, .ref a4, g13, g14, g15, g16, g17, g18, g19, g20, g21, g22, g23, .ref a5, .ref a6, g24, g25, g26, g27, g28, g29, g30, g31, g32, g33, .int m_c.1, .int m_c.2.1, .int m_c.2.2]))])) (wr := ((a5, .inl (cB35, 26, .inl m_v)) :: (a6, .inl (cB36, 26, .inl m_w)) :: bX11 a4 uq kq q_q [])) hP hD hK hS hA [2] [0, 1, 3, 4, 5, 6, 7, 8, 9, 10, 11, 12, 13, 14, 15, 16, 17] rfl rfl (by decide) (by decide) (by decide) (fun hPc hDc => (va_runV (As := [.int o8, .int k2, .int k3]) (rest := []) ⟨hx, hb, hml, hown, hts⟩ (kfX12_refusesDays l dC dI a0 o8 k2 k3 (.int 0) (.int m_t.2.1) (.int m_t.2.2) (.ref a4) (g13) (g14) (g15) (g16) (g17) (g18) (g19) (g20) (g21) (g22) (g23) (.ref a5) (.ref a6) (g24) (g25) (g26) (g27) (g28) (g29) (g30) (g31) (g32) (g33) (.int m_c.1) (.int m_c.2.1) (.int m_c.2.2) H.size o13 eo13.symm) (cwV 3 hts gfX12_landedIn_1 rfl rfl rfl (by decide +kernel) ⟨(Nat.le_of_ble_eq_true rfl), (Nat.le_of_ble_eq_true rfl)⟩) (PV hPc (hK.sub (tys' := ([])) [] rfl) hDc hN 0 rfl rfl) rfl rfl hl.1 rfl (lv_room (Nat.le_of_ble_eq_true rfl)) (zat zrX12_landedIn_0_ok 9 rfl) ⟨(Nat.le_of_ble_eq_true rfl), (Nat.le_of_ble_eq_true rfl)⟩)) (fun r13 _ H locs hw hP hD _ hS => ?_)
  obtain rfl := hw.symm
  obtain ⟨hP, hD⟩ := pd_mk ((a5, .inl (cB35, 26, .inl m_v)) :: (a6, .inl (cB36, 26, .inl m_w)) :: bX11 a4 uq kq q_q ([(a0, .inr (9, [.int 0, .int m_t.2.1, .int m_t.2.2, .ref a4, g13, g14, g15, g16, g17, g18, g19, g20, g21, g22, g23, .ref a5, .ref a6, g24, g25, g26, g27, g28, g29, g30, g31, g32, g33, .int m_c.1, .int m_c.2.1, .int m_c.2.2]))])) hP hD
  refine lv_istore (lv' := [(4, .int o13), (0, .ref a0), (1, .int k1), (2, .int k2), (3, .int k3)]) hx hb (zat zrX12_landedIn_0_ok 10 rfl) hl (by decide) rfl (fun ls hl => ?_)
  refine lv_iload hx hb (zat zrX12_landedIn_0_ok 11 rfl) (lv_at hl 0 rfl) ?_
  refine lv_if_le (tgt := 30) hx hb (zat zrX12_landedIn_0_ok 12 rfl) (by decide) (fun c20 => ?_) (fun c20 => ?_)
  · have h := (if_pos c20).symm.trans h
    refine lv_aload_n hx hb (zat zrX12_landedIn_0_ok 17 rfl) rfl (lv_at hl 1 rfl) ?_
    refine lv_iload_n hx hb (zat zrX12_landedIn_0_ok 18 rfl) rfl (lv_at hl 3 rfl) ?_
    refine lv_iload_n hx hb (zat zrX12_landedIn_0_ok 19 rfl) rfl (lv_at hl 4 rfl) ?_
    refine lv_iload_n hx hb (zat zrX12_landedIn_0_ok 20 rfl) rfl (lv_at hl 2 rfl) ?_
    obtain ⟨o34, eo34, h⟩ := bd_of h
    refine ck_v (wc := ((a0, .inr (9, [.int 0, .int m_t.2.1, .int m_t.2.2, .ref a4, g13, g14, g15, g16, g17, g18, g19, g20, g21, g22, g23, .ref a5, .ref a6, g24, g25, g26, g27, g28, g29, g30, g31, g32, g33, .int m_c.1, .int m_c.2.1, .int m_c.2.2])) :: bX11 a4 uq kq q_q ([(a5, .inl (cB35, 26, .inl m_v)), (a6, .inl (cB36, 26, .inl m_w))]))) (wr := []) hP hD hK hS hA [17, 2, 3, 4, 5, 6, 7, 8, 9, 10, 11, 12, 13, 14, 15, 16, 0, 1] [] rfl rfl (by decide) (by decide) (by decide) (fun hPc hDc => (va_runV (As := [.int k2, .int k3, .int k1]) (rest := []) ⟨hx, hb, hml, hown, hts⟩ (kfX12_days l dC dI a0 k2 k3 k1 a4 a5 a6 uq kq m_v m_w m_c (.int 0) (.int m_t.2.1) (.int m_t.2.2) (g13) (g14) (g15) (g16) (g17) (g18) (g19) (g20) (g21) (g22) (g23) (g24) (g25) (g26) (g27) (g28) (g29) (g30) (g31) (g32) (g33) q_q cB35 cB36 H.size o34 eo34) (cwV 3 hts gfX12_landedIn_2 rfl rfl rfl (by decide +kernel) ⟨(Nat.le_of_ble_eq_true rfl), (Nat.le_of_ble_eq_true rfl)⟩) (PV hPc (hK.sub (tys' := (tX11 kq ((cB35, .int) :: (cB36, .int) :: []))) [0, 1, 2, 3, 4, 5, 6, 7, 8, 9, 10, 11, 12, 13, 14, 15] rfl) hDc hN 0 rfl rfl) rfl rfl hl.1 rfl (lv_room (Nat.le_of_ble_eq_true rfl)) (zat zrX12_landedIn_0_ok 21 rfl) ⟨(Nat.le_of_ble_eq_true rfl), (Nat.le_of_ble_eq_true rfl)⟩)) (fun _ H locs hw hP hD _ hS => ?_)
    obtain ⟨hP, hD⟩ := pd_mk ((a0, .inr (9, [.int 0, .int m_t.2.1, .int m_t.2.2, .ref a4, g13, g14, g15, g16, g17, g18, g19, g20, g21, g22, g23, .ref a5, .ref a6, g24, g25, g26, g27, g28, g29, g30, g31, g32, g33, .int o34.2.1, .int o34.2.2.1, .int o34.2.2.2])) :: bX11 a4 uq kq q_q ([(a5, .inl (cB35, 26, .inl m_v)), (a6, .inl (cB36, 26, .inl o34.1))])) hP hD
    refine lv_aload_n hx hb (zat zrX12_landedIn_0_ok 22 rfl) rfl (lv_at hl 1 rfl) ?_
    refine lv_aload_n hx hb (zat zrX12_landedIn_0_ok 23 rfl) rfl (lv_at hl 1 rfl) ?_
    refine va_get (D := (dC, dI)) (ci := 9) (v := .int o34.2.2.2) (C := RX12) (T := TX12) (N := 30) hx hb hts ifX12_landedIn_X12 hown hK hP 0 rfl rfl 29 (by decide) (hts (.fieldLink RX12 482 "HookPierModel" "landedWhen" "I") (List.mem_of_getElem? (i := 12) rfl)) (fun _ h9 => h9) rfl (zat zrX12_landedIn_0_ok 24 rfl) ?_
    obtain ⟨o42, eo42⟩ : ∃ o, o = f_X12_good o34.2.2.2 ((0 : Int32), m_t.2) := ⟨_, rfl⟩
    have h := nm_of h o42 eo42
    refine ck_i (wc := ([(a0, .inr (9, [.int 0, .int m_t.2.1, .int m_t.2.2, .ref a4, g13, g14, g15, g16, g17, g18, g19, g20, g21, g22, g23, .ref a5, .ref a6, g24, g25, g26, g27, g28, g29, g30, g31, g32, g33, .int o34.2.1, .int o34.2.2.1, .int o34.2.2.2]))])) (wr := (bX11 a4 uq kq q_q ([(a5, .inl (cB35, 26, .inl m_v)), (a6, .inl (cB36, 26, .inl o34.1))]))) hP hD hK hS hA [0] [1, 2, 3, 4, 5, 6, 7, 8, 9, 10, 11, 12, 13, 14, 15, 16, 17] rfl rfl (by decide) (by decide) (by decide) (fun hPc hDc => (va_runV (As := [.int o34.2.2.2]) (rest := []) ⟨hx, hb, hml, hown, hts⟩ (kfX12_good l dC dI a0 o34.2.2.2 ((0 : Int32), m_t.2) (.ref a4) (g13) (g14) (g15) (g16) (g17) (g18) (g19) (g20) (g21) (g22) (g23) (.ref a5) (.ref a6) (g24) (g25) (g26) (g27) (g28) (g29) (g30) (g31) (g32) (g33) (.int o34.2.1) (.int o34.2.2.1) (.int o34.2.2.2) H.size o42 eo42.symm) (cwV 1 hts gfX12_landedIn_3 rfl rfl rfl (by decide +kernel) ⟨(Nat.le_of_ble_eq_true rfl), (Nat.le_of_ble_eq_true rfl)⟩) (PV hPc (hK.sub (tys' := ([])) [] rfl) hDc hN 0 rfl rfl) rfl rfl hl.1 rfl (lv_room (Nat.le_of_ble_eq_true rfl)) (zat zrX12_landedIn_0_ok 25 rfl) ⟨(Nat.le_of_ble_eq_true rfl), (Nat.le_of_ble_eq_true rfl)⟩)) (fun r42 _ H locs hw hP hD _ hS => ?_)
    obtain rfl := hw
    obtain ⟨hP, hD⟩ := pd_mk (bX11 a4 uq kq q_q ([(a5, .inl (cB35, 26, .inl m_v)), (a6, .inl (cB36, 26, .inl o34.1)), (a0, .inr (9, [.int o42.2.1, .int o42.2.2.1, .int o42.2.2.2, .ref a4, g13, g14, g15, g16, g17, g18, g19, g20, g21, g22, g23, .ref a5, .ref a6, g24, g25, g26, g27, g28, g29, g30, g31, g32, g33, .int o34.2.1, .int o34.2.2.1, .int o34.2.2.2]))])) hP hD
    obtain rfl := Option.some.inj h
    obtain ⟨hP9, hD9⟩ := pd_sub ((a0, .inr (9, [.int o42.2.1, .int o42.2.2.1, .int o42.2.2.2, .ref a4, g13, g14, g15, g16, g17, g18, g19, g20, g21, g22, g23, .ref a5, .ref a6, g24, g25, g26, g27, g28, g29, g30, g31, g32, g33, .int o34.2.1, .int o34.2.2.1, .int o34.2.2.2])) :: bX11 a4 uq kq q_q ([(a5, .inl (cB35, 26, .inl m_v)), (a6, .inl (cB36, 26, .inl o34.1))])) [17, 0, 1, 2, 3, 4, 5, 6, 7, 8, 9, 10, 11, 12, 13, 14, 15, 16] hP hD (by decide) rfl
    have hK9 := hK.sub (tys' := []) [] rfl
    rw [hQQ]
    exact W.iret (v := o42.1) hx hb hr (fun t ht hW => ⟨⟨o42.1, (), rfl, rfl, by rw [ht]; exact hP9, va_K.moved hW.alike hK9, hD9⟩, hS.F ht⟩) hS.2.2 (zat zrX12_landedIn_0_ok 26 rfl)
  · have h := (if_neg c20).symm.trans h
    refine lv_aload_n hx hb (zat zrX12_landedIn_0_ok 13 rfl) rfl (lv_at hl 1 rfl) ?_
    refine lv_iload hx hb (zat zrX12_landedIn_0_ok 14 rfl) (lv_at hl 0 rfl) ?_
    obtain ⟨o26, eo26⟩ : ∃ o, o = f_X12_refused o13 ((0 : Int32), m_t.2) := ⟨_, rfl⟩
    have h := nm_of h o26 eo26
    refine ck_i (wc := ([(a0, .inr (9, [.int 0, .int m_t.2.1, .int m_t.2.2, .ref a4, g13, g14, g15, g16, g17, g18, g19, g20, g21, g22, g23, .ref a5, .ref a6, g24, g25, g26, g27, g28, g29, g30, g31, g32, g33, .int m_c.1, .int m_c.2.1, .int m_c.2.2]))])) (wr := ((a5, .inl (cB35, 26, .inl m_v)) :: (a6, .inl (cB36, 26, .inl m_w)) :: bX11 a4 uq kq q_q [])) hP hD hK hS hA [17] [0, 1, 2, 3, 4, 5, 6, 7, 8, 9, 10, 11, 12, 13, 14, 15, 16] rfl rfl (by decide) (by decide) (by decide) (fun hPc hDc => (va_runV (As := [.int o13]) (rest := []) ⟨hx, hb, hml, hown, hts⟩ (kfX12_refused l dC dI a0 o13 ((0 : Int32), m_t.2) (.ref a4) (g13) (g14) (g15) (g16) (g17) (g18) (g19) (g20) (g21) (g22) (g23) (.ref a5) (.ref a6) (g24) (g25) (g26) (g27) (g28) (g29) (g30) (g31) (g32) (g33) (.int m_c.1) (.int m_c.2.1) (.int m_c.2.2) H.size o26 eo26.symm) (cwV 1 hts gfX12_landedIn_4 rfl rfl rfl (by decide +kernel) ⟨(Nat.le_of_ble_eq_true rfl), (Nat.le_of_ble_eq_true rfl)⟩) (PV hPc (hK.sub (tys' := ([])) [] rfl) hDc hN 0 rfl rfl) rfl rfl hl.1 rfl (lv_room (Nat.le_of_ble_eq_true rfl)) (zat zrX12_landedIn_0_ok 15 rfl) ⟨(Nat.le_of_ble_eq_true rfl), (Nat.le_of_ble_eq_true rfl)⟩)) (fun r26 _ H locs hw hP hD _ hS => ?_)
    obtain rfl := hw
    obtain ⟨hP, hD⟩ := pd_mk ((a5, .inl (cB35, 26, .inl m_v)) :: (a6, .inl (cB36, 26, .inl m_w)) :: bX11 a4 uq kq q_q ([(a0, .inr (9, [.int o26.1, .int o26.2.1, .int o26.2.2, .ref a4, g13, g14, g15, g16, g17, g18, g19, g20, g21, g22, g23, .ref a5, .ref a6, g24, g25, g26, g27, g28, g29, g30, g31, g32, g33, .int m_c.1, .int m_c.2.1, .int m_c.2.2]))])) hP hD
    obtain rfl := Option.some.inj h
    obtain ⟨hP9, hD9⟩ := pd_sub ((a0, .inr (9, [.int o26.1, .int o26.2.1, .int o26.2.2, .ref a4, g13, g14, g15, g16, g17, g18, g19, g20, g21, g22, g23, .ref a5, .ref a6, g24, g25, g26, g27, g28, g29, g30, g31, g32, g33, .int m_c.1, .int m_c.2.1, .int m_c.2.2])) :: bX11 a4 uq kq q_q ([(a5, .inl (cB35, 26, .inl m_v)), (a6, .inl (cB36, 26, .inl m_w))])) [17, 2, 3, 4, 5, 6, 7, 8, 9, 10, 11, 12, 13, 14, 15, 16, 0, 1] hP hD (by decide) rfl
    have hK9 := hK.sub (tys' := []) [] rfl
    rw [hQQ]
    exact W.iret (v := (-1 : Int32)) hx hb hr (fun t ht hW => ⟨⟨(-1 : Int32), (), rfl, rfl, by rw [ht]; exact hP9, va_K.moved hW.alike hK9, hD9⟩, hS.F ht⟩) hS.2.2 (zat zrX12_landedIn_0_ok 16 rfl)
noncomputable def zrX12_crabs_0 : List ZR := zc 0 true (.aload_n 0) 1 (zc 1 true (.iconst 0) 1 (zc 2 true (.putfield 36) 3 (zc 5 true (.aload_n 0) 1 (zc 6 true (.aload_n 0) 1 (zc 7 true (.getfield 299) 3 (zc 10 true (.ifnull 7) 3 (zc 13 true (.iconst 1) 1 (zc 14 true (.goto 4) 3 (zc 17 false (.nop) 1 (zc 18 true (.iload_n 1) 1 (zc 19 true (.iload_n 2) 1 (zc 20 true (.invokevirtual 490) 3 (zc 23 true (.istore_n 3) 1 (zc 24 true (.iload_n 3) 1 (zc 25 true (.ifCond .le 9) 3 (zc 28 true (.aload_n 0) 1 (zc 29 true (.iload_n 3) 1 (zc 30 true (.invokevirtual 42) 3 (zc 33 true (.ireturn) 1 (zc 34 true (.aload_n 0) 1 (zc 35 true (.iload_n 1) 1 (zc 36 true (.iload_n 2) 1 (zc 37 true (.iconst 0) 1 (zc 38 true (.invokevirtual 494) 3 (zc 41 true (.aload_n 0) 1 (zc 42 true (.aload_n 0) 1 (zc 43 true (.getfield 473) 3 (zc 46 true (.invokevirtual 46) 3 (zc 49 true (.ireturn) 1 ([]))))))))))))))))))))))))))))))
theorem zrX12_crabs_0_ok : zck 0 ((zby cX12_crabs).drop 0) zrX12_crabs_0 = true := by decide +kernel
def vfX12_crabs : List Cond := List.cons (.code yX12_crabs cX12_crabs 4 (some .int)) (apW [.fieldLink RX12 36 "HookPierModel" "thrown" "I", .fieldLink RX12 299 "HookPierModel" "pier" "LHookPierModel$Pier;", .methodLink RX12 490 yX12_refusesDays, .instanceMethod yX12_refusesDays, .selects RX12 yX12_refusesDays yX12_refusesDays, .initialized RX12, .methodLink RX12 494 yX12_days, .instanceMethod yX12_days, .selects RX12 yX12_days yX12_days, .fieldLink RX12 473 "HookPierModel" "crabsNow" "I", .methodLink RX12 46 yX12_good, .instanceMethod yX12_good, .selects RX12 yX12_good yX12_good, .methodLink RX12 42 yX12_refused, .instanceMethod yX12_refused, .selects RX12 yX12_refused yX12_refused] (apW wsX120 (apW vfX12_refusesDays (apW vfX12_days (apW vfX12_good (vfX12_refused))))))
theorem ifX12_crabs_X12 : ∀ w ∈ wsX120, w ∈ vfX12_crabs := fun _ h => (List.mem_cons_of_mem _ (List.mem_append_right _ (List.mem_append_left _ h)))
theorem qfX12_crabs : Good vfX12_crabs := gd_cons (by decide +kernel) (gd_app (gd_dec (by decide +kernel) : Good [.fieldLink RX12 36 "HookPierModel" "thrown" "I", .fieldLink RX12 299 "HookPierModel" "pier" "LHookPierModel$Pier;", .methodLink RX12 490 yX12_refusesDays, .instanceMethod yX12_refusesDays, .selects RX12 yX12_refusesDays yX12_refusesDays, .initialized RX12, .methodLink RX12 494 yX12_days, .instanceMethod yX12_days, .selects RX12 yX12_days yX12_days, .fieldLink RX12 473 "HookPierModel" "crabsNow" "I", .methodLink RX12 46 yX12_good, .instanceMethod yX12_good, .selects RX12 yX12_good yX12_good, .methodLink RX12 42 yX12_refused, .instanceMethod yX12_refused, .selects RX12 yX12_refused yX12_refused]) (gd_app qsX12 (gd_app qfX12_refusesDays (gd_app qfX12_days (gd_app qfX12_good qfX12_refused)))))
theorem gfX12_crabs_0 : GoodIn vfX12_crabs (wsV RX12 490 RX12 yX12_refusesDays vfX12_refusesDays) := goodIn_app (goodIn_r [.methodLink RX12 490 yX12_refusesDays, .instanceMethod yX12_refusesDays, .selects RX12 yX12_refusesDays yX12_refusesDays, .initialized RX12] [3, 4, 5, 6] rfl (by decide +kernel)) (goodIn_m (fun _ h => (List.mem_cons_of_mem _ (List.mem_append_right _ (List.mem_append_right _ (List.mem_append_left _ h))))) qfX12_refusesDays)
theorem gfX12_crabs_1 : GoodIn vfX12_crabs (wsV RX12 494 RX12 yX12_days vfX12_days) := goodIn_app (goodIn_r [.methodLink RX12 494 yX12_days, .instanceMethod yX12_days, .selects RX12 yX12_days yX12_days, .initialized RX12] [7, 8, 9, 6] rfl (by decide +kernel)) (goodIn_m (fun _ h => (List.mem_cons_of_mem _ (List.mem_append_right _ (List.mem_append_right _ (List.mem_append_right _ (List.mem_append_left _ h)))))) qfX12_days)
theorem gfX12_crabs_2 : GoodIn vfX12_crabs (wsV RX12 46 RX12 yX12_good vfX12_good) := goodIn_app (goodIn_r [.methodLink RX12 46 yX12_good, .instanceMethod yX12_good, .selects RX12 yX12_good yX12_good, .initialized RX12] [11, 12, 13, 6] rfl (by decide +kernel)) (goodIn_m (fun _ h => (List.mem_cons_of_mem _ (List.mem_append_right _ (List.mem_append_right _ (List.mem_append_right _ (List.mem_append_right _ (List.mem_append_left _ h))))))) qfX12_good)
theorem gfX12_crabs_3 : GoodIn vfX12_crabs (wsV RX12 42 RX12 yX12_refused vfX12_refused) := goodIn_app (goodIn_r [.methodLink RX12 42 yX12_refused, .instanceMethod yX12_refused, .selects RX12 yX12_refused yX12_refused, .initialized RX12] [14, 15, 16, 6] rfl (by decide +kernel)) (goodIn_m (fun _ h => (List.mem_cons_of_mem _ (List.mem_append_right _ (List.mem_append_right _ (List.mem_append_right _ (List.mem_append_right _ (List.mem_append_right _ h))))))) qfX12_refused)
set_option maxHeartbeats 2000000 in
set_option maxRecDepth 100000 in
theorem kfX12_crabs (l : Launch) (dC : Nat → ClassId) (dI : Nat → Nat → Nat) (a0 : Nat) (k1 : Int32) (k2 : Int32) (a3 : Nat) (a4 : Nat) (a5 : Nat) (uq : Nat → Nat) (kq : Nat → ClassId) (m_t : TX12_t) (m_v : TX12_v) (m_w : TX12_w) (m_c : TX12_c) (g12 : Value) (g13 : Value) (g14 : Value) (g15 : Value) (g16 : Value) (g17 : Value) (g18 : Value) (g19 : Value) (g20 : Value) (g21 : Value) (g22 : Value) (g23 : Value) (g24 : Value) (g25 : Value) (g26 : Value) (g27 : Value) (g28 : Value) (g29 : Value) (g30 : Value) (g31 : Value) (g32 : Value) (q_q : TX11_q) (cB34 : ClassId) (cB35 : ClassId) (sz : Nat) (out : (Int32 × TX12_t × TX12_w × TX12_c)) (h : f_X12_crabs k1 k2 m_t m_v m_w m_c q_q = some out) : KCi l yX12_crabs vfX12_crabs ({ frames := 7, cells := 0, slots := 0, locals := 165 }) (dC, dI) [.ref a0, .int k1, .int k2] sz ((a0, .inr (9, [.int m_t.1, .int m_t.2.1, .int m_t.2.2, .ref a3, g12, g13, g14, g15, g16, g17, g18, g19, g20, g21, g22, .ref a4, .ref a5, g23, g24, g25, g26, g27, g28, g29, g30, g31, g32, .int m_c.1, .int m_c.2.1, .int m_c.2.2])) :: bX11 a3 uq kq q_q ([(a4, .inl (cB34, 26, .inl m_v)), (a5, .inl (cB35, 26, .inl m_w))])) (tX11 kq ((cB34, .int) :: (cB35, .int) :: [])) (fun (r : Int32) _ => r = out.1) ((a0, .inr (9, [.int out.2.1.1, .int out.2.1.2.1, .int out.2.1.2.2, .ref a3, g12, g13, g14, g15, g16, g17, g18, g19, g20, g21, g22, .ref a4, .ref a5, g23, g24, g25, g26, g27, g28, g29, g30, g31, g32, .int out.2.2.2.1, .int out.2.2.2.2.1, .int out.2.2.2.2.2])) :: bX11 a3 uq kq q_q ([(a4, .inl (cB34, 26, .inl m_v)), (a5, .inl (cB35, 26, .inl out.2.2.1))])) 0 0 := by
  refine Met.ofW (cc := cX12_crabs) (maxL := 4) (ret := (some .int)) (by decide) rfl ?_
  intro p e s m args below meth c s₁ B0 hml hv
  obtain ⟨rfl, hsz, hP, hK, hD0, hN⟩ := hv
  have hx := B0.exec
  have hb := B0.bytes
  have hr := B0.returns
  have hts := atoms_spec (ws := vfX12_crabs) B0.pre
  have hown : s.vm.findClass RX12 = some m.cls := findClass_of_methodNamed B0.named
  have hlocks := B0.notSynchronized
  subst hsz
  have hD := hD0.self (sz := s.heap.size)
  generalize hAe : va_A ((a0, .inr (9, [.int m_t.1, .int m_t.2.1, .int m_t.2.2, .ref a3, g12, g13, g14, g15, g16, g17, g18, g19, g20, g21, g22, .ref a4, .ref a5, g23, g24, g25, g26, g27, g28, g29, g30, g31, g32, .int m_c.1, .int m_c.2.1, .int m_c.2.2])) :: bX11 a3 uq kq q_q ([(a4, .inl (cB34, 26, .inl m_v)), (a5, .inl (cB35, 26, .inl m_w))])) s.heap.size = A at hD ⊢
  have hA : ∀ q : Nat, s.heap.size ≤ q → A q := fun q h => by rw [← hAe]; exact Or.inr h
  have hS : va_S A s.heap s.heap [] := va_S.rf
  have hP : va_P (dC, dI) vwCl ((a0, .inr (9, [.int m_t.1, .int m_t.2.1, .int m_t.2.2, .ref a3, g12, g13, g14, g15, g16, g17, g18, g19, g20, g21, g22, .ref a4, .ref a5, g23, g24, g25, g26, g27, g28, g29, g30, g31, g32, .int m_c.1, .int m_c.2.1, .int m_c.2.2])) :: bX11 a3 uq kq q_q ([(a4, .inl (cB34, 26, .inl m_v)), (a5, .inl (cB35, 26, .inl m_w))])) s.heap := hP
  have hl := lv_entry ([.ref a0, .int k1, .int k2]) (n := 4) (Nat.le_of_ble_eq_true rfl)
  rw [lg_entry_eq]
  generalize (lg_sl ([.ref a0, .int k1, .int k2]) ++ List.replicate (4 - (lg_sl ([.ref a0, .int k1, .int k2])).length) Slot.unset).toArray = ls at hl ⊢
  have hl : lv_has ls 4 [(0, .ref a0), (1, .int k1), (2, .int k2)] := hl
  refine W_q (fun QQ hQQ => ?_)
  rw [f_X12_crabs] at h
  refine lv_aload_n hx hb (zat zrX12_crabs_0_ok 0 rfl) rfl (lv_at hl 0 rfl) ?_
  refine lv_iconst (v := 0) hx hb (zat zrX12_crabs_0_ok 1 rfl) (by decide) ?_
  refine va_put (D := (dC, dI)) (ci := 9) (v := .int 0) (ty := .int) (C := RX12) (T := TX12) (N := 30) hx hb hts ifX12_crabs_X12 tyX12 tyX12_ok nmX12 hown hK hP hD hS 0 rfl rfl 0 (by decide) (hts (.fieldLink RX12 36 "HookPierModel" "thrown" "I") (List.mem_of_getElem? (i := 1) rfl)) (fun _ h9 => h9) rfl (by decide +kernel) rfl rfl (Nat.le_of_ble_eq_true rfl) (zat zrX12_crabs_0_ok 2 rfl) (fun H locs hP hD hS => ?_)
  obtain ⟨hP, hD⟩ := pd_mk ((a0, .inr (9, [.int 0, .int m_t.2.1, .int m_t.2.2, .ref a3, g12, g13, g14, g15, g16, g17, g18, g19, g20, g21, g22, .ref a4, .ref a5, g23, g24, g25, g26, g27, g28, g29, g30, g31, g32, .int m_c.1, .int m_c.2.1, .int m_c.2.2])) :: bX11 a3 uq kq q_q ([(a4, .inl (cB34, 26, .inl m_v)), (a5, .inl (cB35, 26, .inl m_w))])) hP hD
  refine lv_aload_n hx hb (zat zrX12_crabs_0_ok 3 rfl) rfl (lv_at hl 0 rfl) ?_
  refine lv_aload_n hx hb (zat zrX12_crabs_0_ok 4 rfl) rfl (lv_at hl 0 rfl) ?_
  refine va_get (D := (dC, dI)) (ci := 9) (v := .ref a3) (C := RX12) (T := TX12) (N := 30) hx hb hts ifX12_crabs_X12 hown hK hP 0 rfl rfl 3 (by decide) (hts (.fieldLink RX12 299 "HookPierModel" "pier" "LHookPierModel$Pier;") (List.mem_of_getElem? (i := 2) rfl)) (fun _ h9 => h9) rfl (zat zrX12_crabs_0_ok 5 rfl) ?_
  refine lv_ifnull hx hb (zat zrX12_crabs_0_ok 6 rfl) ?_
  refine lv_iconst (v := 1) hx hb (zat zrX12_crabs_0_ok 7 rfl) (by decide) ?_
  refine lv_goto (tgt := 18) hx hb (zat zrX12_crabs_0_ok 8 rfl) (by decide) ?_
  refine lv_iload_n hx hb (zat zrX12_crabs_0_ok 10 rfl) rfl (lv_at hl 1 rfl) ?_
  refine lv_iload_n hx hb (zat zrX12_crabs_0_ok 11 rfl) rfl (lv_at hl 2 rfl) ?_
  obtain ⟨o20, eo20⟩ : ∃ o, o = f_X12_refusesDays (1 : Int32) k1 k2 := ⟨_, rfl⟩
  have h := nm_of h o20 eo20
  refine ck_i (wc := ([(a0, .inr (9, [.int 0, .int m_t.2.1, .int m_t.2.2, .ref a3, g12, g13, g14, g15, g16, g17, g18, g19, g20, g21, g22, .ref a4, .ref a5, g23, g24, g25, g26, g27, g28, g29, g30, g31, g32, .int m_c.1, .int m_c.2.1, .int m_c.2.2]))])) (wr := (bX11 a3 uq kq q_q ([(a4, .inl (cB34, 26, .inl m_v)), (a5, .inl (cB35, 26, .inl m_w))]))) hP hD hK hS hA [0] [1, 2, 3, 4, 5, 6, 7, 8, 9, 10, 11, 12, 13, 14, 15, 16, 17] rfl rfl (by decide) (by decide) (by decide) (fun hPc hDc => (va_runV (As := [.int 1, .int k1, .int k2]) (rest := []) ⟨hx, hb, hml, hown, hts⟩ (kfX12_refusesDays l dC dI a0 (1 : Int32) k1 k2 (.int 0) (.int m_t.2.1) (.int m_t.2.2) (.ref a3) (g12) (g13) (g14) (g15) (g16) (g17) (g18) (g19) (g20) (g21) (g22) (.ref a4) (.ref a5) (g23) (g24) (g25) (g26) (g27) (g28) (g29) (g30) (g31) (g32) (.int m_c.1) (.int m_c.2.1) (.int m_c.2.2) H.size o20 eo20.symm) (cwV 3 hts gfX12_crabs_0 rfl rfl rfl (by decide +kernel) ⟨(Nat.le_of_ble_eq_true rfl), (Nat.le_of_ble_eq_true rfl)⟩) (PV hPc (hK.sub (tys' := ([])) [] rfl) hDc hN 0 rfl rfl) rfl rfl hl.1 rfl (lv_room (Nat.le_of_ble_eq_true rfl)) (zat zrX12_crabs_0_ok 12 rfl) ⟨(Nat.le_of_ble_eq_true rfl), (Nat.le_of_ble_eq_true rfl)⟩)) (fun r20 _ H locs hw hP hD _ hS => ?_)
  obtain rfl := hw.symm
  obtain ⟨hP, hD⟩ := pd_mk (bX11 a3 uq kq q_q ([(a4, .inl (cB34, 26, .inl m_v)), (a5, .inl (cB35, 26, .inl m_w)), (a0, .inr (9, [.int 0, .int m_t.2.1, .int m_t.2.2, .ref a3, g12, g13, g14, g15, g16, g17, g18, g19, g20, g21, g22, .ref a4, .ref a5, g23, g24, g25, g26, g27, g28, g29, g30, g31, g32, .int m_c.1, .int m_c.2.1, .int m_c.2.2]))])) hP hD
  refine lv_istore_n (lv' := [(3, .int o20), (0, .ref a0), (1, .int k1), (2, .int k2)]) hx hb (zat zrX12_crabs_0_ok 13 rfl) rfl hl (by decide) rfl (fun ls hl => ?_)
  refine lv_iload_n hx hb (zat zrX12_crabs_0_ok 14 rfl) rfl (lv_at hl 0 rfl) ?_
  refine lv_if_le (tgt := 34) hx hb (zat zrX12_crabs_0_ok 15 rfl) (by decide) (fun c25 => ?_) (fun c25 => ?_)
  · have h := (if_pos c25).symm.trans h
    refine lv_aload_n hx hb (zat zrX12_crabs_0_ok 20 rfl) rfl (lv_at hl 1 rfl) ?_
    refine lv_iload_n hx hb (zat zrX12_crabs_0_ok 21 rfl) rfl (lv_at hl 2 rfl) ?_
    refine lv_iload_n hx hb (zat zrX12_crabs_0_ok 22 rfl) rfl (lv_at hl 3 rfl) ?_
    refine lv_iconst (v := 0) hx hb (zat zrX12_crabs_0_ok 23 rfl) (by decide) ?_
    obtain ⟨o38, eo38, h⟩ := bd_of h
    refine ck_v (wc := ((a0, .inr (9, [.int 0, .int m_t.2.1, .int m_t.2.2, .ref a3, g12, g13, g14, g15, g16, g17, g18, g19, g20, g21, g22, .ref a4, .ref a5, g23, g24, g25, g26, g27, g28, g29, g30, g31, g32, .int m_c.1, .int m_c.2.1, .int m_c.2.2])) :: bX11 a3 uq kq q_q ([(a4, .inl (cB34, 26, .inl m_v)), (a5, .inl (cB35, 26, .inl m_w))]))) (wr := []) hP hD hK hS hA [17, 0, 1, 2, 3, 4, 5, 6, 7, 8, 9, 10, 11, 12, 13, 14, 15, 16] [] rfl rfl (by decide) (by decide) (by decide) (fun hPc hDc => (va_runV (As := [.int k1, .int k2, .int 0]) (rest := []) ⟨hx, hb, hml, hown, hts⟩ (kfX12_days l dC dI a0 k1 k2 (0 : Int32) a3 a4 a5 uq kq m_v m_w m_c (.int 0) (.int m_t.2.1) (.int m_t.2.2) (g12) (g13) (g14) (g15) (g16) (g17) (g18) (g19) (g20) (g21) (g22) (g23) (g24) (g25) (g26) (g27) (g28) (g29) (g30) (g31) (g32) q_q cB34 cB35 H.size o38 eo38) (cwV 3 hts gfX12_crabs_1 rfl rfl rfl (by decide +kernel) ⟨(Nat.le_of_ble_eq_true rfl), (Nat.le_of_ble_eq_true rfl)⟩) (PV hPc (hK.sub (tys' := (tX11 kq ((cB34, .int) :: (cB35, .int) :: []))) [0, 1, 2, 3, 4, 5, 6, 7, 8, 9, 10, 11, 12, 13, 14, 15] rfl) hDc hN 0 rfl rfl) rfl rfl hl.1 rfl (lv_room (Nat.le_of_ble_eq_true rfl)) (zat zrX12_crabs_0_ok 24 rfl) ⟨(Nat.le_of_ble_eq_true rfl), (Nat.le_of_ble_eq_true rfl)⟩)) (fun _ H locs hw hP hD _ hS => ?_)
    obtain ⟨hP, hD⟩ := pd_mk ((a0, .inr (9, [.int 0, .int m_t.2.1, .int m_t.2.2, .ref a3, g12, g13, g14, g15, g16, g17, g18, g19, g20, g21, g22, .ref a4, .ref a5, g23, g24, g25, g26, g27, g28, g29, g30, g31, g32, .int o38.2.1, .int o38.2.2.1, .int o38.2.2.2])) :: bX11 a3 uq kq q_q ([(a4, .inl (cB34, 26, .inl m_v)), (a5, .inl (cB35, 26, .inl o38.1))])) hP hD
    refine lv_aload_n hx hb (zat zrX12_crabs_0_ok 25 rfl) rfl (lv_at hl 1 rfl) ?_
    refine lv_aload_n hx hb (zat zrX12_crabs_0_ok 26 rfl) rfl (lv_at hl 1 rfl) ?_
    refine va_get (D := (dC, dI)) (ci := 9) (v := .int o38.2.1) (C := RX12) (T := TX12) (N := 30) hx hb hts ifX12_crabs_X12 hown hK hP 0 rfl rfl 27 (by decide) (hts (.fieldLink RX12 473 "HookPierModel" "crabsNow" "I") (List.mem_of_getElem? (i := 10) rfl)) (fun _ h9 => h9) rfl (zat zrX12_crabs_0_ok 27 rfl) ?_
    obtain ⟨o46, eo46⟩ : ∃ o, o = f_X12_good o38.2.1 ((0 : Int32), m_t.2) := ⟨_, rfl⟩
    have h := nm_of h o46 eo46
    refine ck_i (wc := ([(a0, .inr (9, [.int 0, .int m_t.2.1, .int m_t.2.2, .ref a3, g12, g13, g14, g15, g16, g17, g18, g19, g20, g21, g22, .ref a4, .ref a5, g23, g24, g25, g26, g27, g28, g29, g30, g31, g32, .int o38.2.1, .int o38.2.2.1, .int o38.2.2.2]))])) (wr := (bX11 a3 uq kq q_q ([(a4, .inl (cB34, 26, .inl m_v)), (a5, .inl (cB35, 26, .inl o38.1))]))) hP hD hK hS hA [0] [1, 2, 3, 4, 5, 6, 7, 8, 9, 10, 11, 12, 13, 14, 15, 16, 17] rfl rfl (by decide) (by decide) (by decide) (fun hPc hDc => (va_runV (As := [.int o38.2.1]) (rest := []) ⟨hx, hb, hml, hown, hts⟩ (kfX12_good l dC dI a0 o38.2.1 ((0 : Int32), m_t.2) (.ref a3) (g12) (g13) (g14) (g15) (g16) (g17) (g18) (g19) (g20) (g21) (g22) (.ref a4) (.ref a5) (g23) (g24) (g25) (g26) (g27) (g28) (g29) (g30) (g31) (g32) (.int o38.2.1) (.int o38.2.2.1) (.int o38.2.2.2) H.size o46 eo46.symm) (cwV 1 hts gfX12_crabs_2 rfl rfl rfl (by decide +kernel) ⟨(Nat.le_of_ble_eq_true rfl), (Nat.le_of_ble_eq_true rfl)⟩) (PV hPc (hK.sub (tys' := ([])) [] rfl) hDc hN 0 rfl rfl) rfl rfl hl.1 rfl (lv_room (Nat.le_of_ble_eq_true rfl)) (zat zrX12_crabs_0_ok 28 rfl) ⟨(Nat.le_of_ble_eq_true rfl), (Nat.le_of_ble_eq_true rfl)⟩)) (fun r46 _ H locs hw hP hD _ hS => ?_)
    obtain rfl := hw
    obtain ⟨hP, hD⟩ := pd_mk (bX11 a3 uq kq q_q ([(a4, .inl (cB34, 26, .inl m_v)), (a5, .inl (cB35, 26, .inl o38.1)), (a0, .inr (9, [.int o46.2.1, .int o46.2.2.1, .int o46.2.2.2, .ref a3, g12, g13, g14, g15, g16, g17, g18, g19, g20, g21, g22, .ref a4, .ref a5, g23, g24, g25, g26, g27, g28, g29, g30, g31, g32, .int o38.2.1, .int o38.2.2.1, .int o38.2.2.2]))])) hP hD
    obtain rfl := Option.some.inj h
    obtain ⟨hP9, hD9⟩ := pd_sub ((a0, .inr (9, [.int o46.2.1, .int o46.2.2.1, .int o46.2.2.2, .ref a3, g12, g13, g14, g15, g16, g17, g18, g19, g20, g21, g22, .ref a4, .ref a5, g23, g24, g25, g26, g27, g28, g29, g30, g31, g32, .int o38.2.1, .int o38.2.2.1, .int o38.2.2.2])) :: bX11 a3 uq kq q_q ([(a4, .inl (cB34, 26, .inl m_v)), (a5, .inl (cB35, 26, .inl o38.1))])) [17, 0, 1, 2, 3, 4, 5, 6, 7, 8, 9, 10, 11, 12, 13, 14, 15, 16] hP hD (by decide) rfl
    have hK9 := hK.sub (tys' := []) [] rfl
    rw [hQQ]
    exact W.iret (v := o46.1) hx hb hr (fun t ht hW => ⟨⟨o46.1, (), rfl, rfl, by rw [ht]; exact hP9, va_K.moved hW.alike hK9, hD9⟩, hS.F ht⟩) hS.2.2 (zat zrX12_crabs_0_ok 29 rfl)
  · have h := (if_neg c25).symm.trans h
    refine lv_aload_n hx hb (zat zrX12_crabs_0_ok 16 rfl) rfl (lv_at hl 1 rfl) ?_
    refine lv_iload_n hx hb (zat zrX12_crabs_0_ok 17 rfl) rfl (lv_at hl 0 rfl) ?_
    obtain ⟨o30, eo30⟩ : ∃ o, o = f_X12_refused o20 ((0 : Int32), m_t.2) := ⟨_, rfl⟩
    have h := nm_of h o30 eo30
    refine ck_i (wc := ([(a0, .inr (9, [.int 0, .int m_t.2.1, .int m_t.2.2, .ref a3, g12, g13, g14, g15, g16, g17, g18, g19, g20, g21, g22, .ref a4, .ref a5, g23, g24, g25, g26, g27, g28, g29, g30, g31, g32, .int m_c.1, .int m_c.2.1, .int m_c.2.2]))])) (wr := (bX11 a3 uq kq q_q ([(a4, .inl (cB34, 26, .inl m_v)), (a5, .inl (cB35, 26, .inl m_w))]))) hP hD hK hS hA [17] [0, 1, 2, 3, 4, 5, 6, 7, 8, 9, 10, 11, 12, 13, 14, 15, 16] rfl rfl (by decide) (by decide) (by decide) (fun hPc hDc => (va_runV (As := [.int o20]) (rest := []) ⟨hx, hb, hml, hown, hts⟩ (kfX12_refused l dC dI a0 o20 ((0 : Int32), m_t.2) (.ref a3) (g12) (g13) (g14) (g15) (g16) (g17) (g18) (g19) (g20) (g21) (g22) (.ref a4) (.ref a5) (g23) (g24) (g25) (g26) (g27) (g28) (g29) (g30) (g31) (g32) (.int m_c.1) (.int m_c.2.1) (.int m_c.2.2) H.size o30 eo30.symm) (cwV 1 hts gfX12_crabs_3 rfl rfl rfl (by decide +kernel) ⟨(Nat.le_of_ble_eq_true rfl), (Nat.le_of_ble_eq_true rfl)⟩) (PV hPc (hK.sub (tys' := ([])) [] rfl) hDc hN 0 rfl rfl) rfl rfl hl.1 rfl (lv_room (Nat.le_of_ble_eq_true rfl)) (zat zrX12_crabs_0_ok 18 rfl) ⟨(Nat.le_of_ble_eq_true rfl), (Nat.le_of_ble_eq_true rfl)⟩)) (fun r30 _ H locs hw hP hD _ hS => ?_)
    obtain rfl := hw
    obtain ⟨hP, hD⟩ := pd_mk (bX11 a3 uq kq q_q ([(a4, .inl (cB34, 26, .inl m_v)), (a5, .inl (cB35, 26, .inl m_w)), (a0, .inr (9, [.int o30.1, .int o30.2.1, .int o30.2.2, .ref a3, g12, g13, g14, g15, g16, g17, g18, g19, g20, g21, g22, .ref a4, .ref a5, g23, g24, g25, g26, g27, g28, g29, g30, g31, g32, .int m_c.1, .int m_c.2.1, .int m_c.2.2]))])) hP hD
    obtain rfl := Option.some.inj h
    obtain ⟨hP9, hD9⟩ := pd_sub ((a0, .inr (9, [.int o30.1, .int o30.2.1, .int o30.2.2, .ref a3, g12, g13, g14, g15, g16, g17, g18, g19, g20, g21, g22, .ref a4, .ref a5, g23, g24, g25, g26, g27, g28, g29, g30, g31, g32, .int m_c.1, .int m_c.2.1, .int m_c.2.2])) :: bX11 a3 uq kq q_q ([(a4, .inl (cB34, 26, .inl m_v)), (a5, .inl (cB35, 26, .inl m_w))])) [17, 0, 1, 2, 3, 4, 5, 6, 7, 8, 9, 10, 11, 12, 13, 14, 15, 16] hP hD (by decide) rfl
    have hK9 := hK.sub (tys' := []) [] rfl
    rw [hQQ]
    exact W.iret (v := (-1 : Int32)) hx hb hr (fun t ht hW => ⟨⟨(-1 : Int32), (), rfl, rfl, by rw [ht]; exact hP9, va_K.moved hW.alike hK9, hD9⟩, hS.F ht⟩) hS.2.2 (zat zrX12_crabs_0_ok 19 rfl)
noncomputable def zrX12_led_0 : List ZR := zc 0 true (.aload_n 0) 1 (zc 1 true (.iconst 0) 1 (zc 2 true (.putfield 36) 3 (zc 5 true (.iconst 0) 1 (zc 6 true (.istore_n 2) 1 (zc 7 true (.iconst 0) 1 (zc 8 true (.istore_n 3) 1 (zc 9 true (.aload_n 0) 1 (zc 10 true (.getfield 299) 3 (zc 13 true (.ifnull 44) 3 (zc 16 true (.iload_n 3) 1 (zc 17 true (.aload_n 0) 1 (zc 18 true (.getfield 299) 3 (zc 21 true (.getfield 231) 3 (zc 24 true (.if_icmp .ge 33) 3 (zc 27 true (.aload_n 0) 1 (zc 28 true (.getfield 17) 3 (zc 31 true (.iconst 0) 1 (zc 32 true (.iload_n 3) 1 (zc 33 true (.iadd) 1 (zc 34 true (.iaload) 1 (zc 35 true (.ifCond .ne 6) 3 (zc 38 true (.goto 13) 3 (zc 41 true (.iload_n 2) 1 (zc 42 true (.iload_n 1) 1 (zc 43 true (.if_icmp .ne 5) 3 (zc 46 true (.iload_n 3) 1 (zc 47 true (.ireturn) 1 (zc 48 true (.iinc 2 1) 3 (zc 51 true (.iinc 3 1) 3 (zc 54 true (.goto (-45)) 3 (zc 57 true (.aload_n 0) 1 (zc 58 true (.iconst 1) 1 (zc 59 true (.putfield 36) 3 (zc 62 true (.iconst 0) 1 (zc 63 true (.ireturn) 1 ([]))))))))))))))))))))))))))))))))))))
theorem zrX12_led_0_ok : zck 0 ((zby cX12_led).drop 0) zrX12_led_0 = true := by decide +kernel
def vfX12_led : List Cond := List.cons (.code yX12_led cX12_led 4 (some .int)) (apW [.fieldLink RX12 36 "HookPierModel" "thrown" "I", .fieldLink RX12 299 "HookPierModel" "pier" "LHookPierModel$Pier;", .fieldLink RX12 17 "HookPierModel" "v" "[I"] (apW wsX120 (wsX110)))
theorem ifX12_led_X12 : ∀ w ∈ wsX120, w ∈ vfX12_led := fun _ h => (List.mem_cons_of_mem _ (List.mem_append_right _ (List.mem_append_left _ h)))
theorem ifX12_led_X11 : ∀ w ∈ wsX110, w ∈ vfX12_led := fun _ h => (List.mem_cons_of_mem _ (List.mem_append_right _ (List.mem_append_right _ h)))
theorem qfX12_led : Good vfX12_led := gd_cons (by decide +kernel) (gd_app (gd_dec (by decide +kernel) : Good [.fieldLink RX12 36 "HookPierModel" "thrown" "I", .fieldLink RX12 299 "HookPierModel" "pier" "LHookPierModel$Pier;", .fieldLink RX12 17 "HookPierModel" "v" "[I"]) (gd_app qsX12 qsX11))
set_option maxHeartbeats 2000000 in
set_option maxRecDepth 100000 in
theorem kfX12_led (l : Launch) (dC : Nat → ClassId) (dI : Nat → Nat → Nat) (a0 : Nat) (k1 : Int32) (a2 : Nat) (a3 : Nat) (uq : Nat → Nat) (kq : Nat → ClassId) (m_t : TX12_t) (m_v : TX12_v) (g8 : Value) (g9 : Value) (g10 : Value) (g11 : Value) (g12 : Value) (g13 : Value) (g14 : Value) (g15 : Value) (g16 : Value) (g17 : Value) (g18 : Value) (g19 : Value) (g20 : Value) (g21 : Value) (g22 : Value) (g23 : Value) (g24 : Value) (g25 : Value) (g26 : Value) (g27 : Value) (g28 : Value) (g29 : Value) (g30 : Value) (g31 : Value) (g32 : Value) (q_q : TX11_q) (cB34 : ClassId) (sz : Nat) (out : (Int32 × TX12_t)) (h : f_X12_led k1 m_t m_v q_q = some out) : KCi l yX12_led vfX12_led ({ frames := 0, cells := 0, slots := 0, locals := 0 }) (dC, dI) [.ref a0, .int k1] sz ((a0, .inr (9, [.int m_t.1, .int m_t.2.1, .int m_t.2.2, .ref a2, g8, g9, g10, g11, g12, g13, g14, g15, g16, g17, g18, .ref a3, g19, g20, g21, g22, g23, g24, g25, g26, g27, g28, g29, g30, g31, g32])) :: bX11 a2 uq kq q_q ([(a3, .inl (cB34, 26, .inl m_v))])) (tX11 kq ((cB34, .int) :: [])) (fun (r : Int32) _ => r = out.1) ((a0, .inr (9, [.int out.2.1, .int out.2.2.1, .int out.2.2.2, .ref a2, g8, g9, g10, g11, g12, g13, g14, g15, g16, g17, g18, .ref a3, g19, g20, g21, g22, g23, g24, g25, g26, g27, g28, g29, g30, g31, g32])) :: bX11 a2 uq kq q_q ([(a3, .inl (cB34, 26, .inl m_v))])) 0 0 := by
  refine Met.ofW (cc := cX12_led) (maxL := 4) (ret := (some .int)) (by decide) rfl ?_
  intro p e s m args below meth c s₁ B0 hml hv
  obtain ⟨rfl, hsz, hP, hK, hD0, hN⟩ := hv
  have hx := B0.exec
  have hb := B0.bytes
  have hr := B0.returns
  have hts := atoms_spec (ws := vfX12_led) B0.pre
  have hown : s.vm.findClass RX12 = some m.cls := findClass_of_methodNamed B0.named
  have hlocks := B0.notSynchronized
  subst hsz
  have hD := hD0.self (sz := s.heap.size)
  generalize hAe : va_A ((a0, .inr (9, [.int m_t.1, .int m_t.2.1, .int m_t.2.2, .ref a2, g8, g9, g10, g11, g12, g13, g14, g15, g16, g17, g18, .ref a3, g19, g20, g21, g22, g23, g24, g25, g26, g27, g28, g29, g30, g31, g32])) :: bX11 a2 uq kq q_q ([(a3, .inl (cB34, 26, .inl m_v))])) s.heap.size = A at hD ⊢
  have hA : ∀ q : Nat, s.heap.size ≤ q → A q := fun q h => by rw [← hAe]; exact Or.inr h
  have hS : va_S A s.heap s.heap [] := va_S.rf
  have hP : va_P (dC, dI) vwCl ((a0, .inr (9, [.int m_t.1, .int m_t.2.1, .int m_t.2.2, .ref a2, g8, g9, g10, g11, g12, g13, g14, g15, g16, g17, g18, .ref a3, g19, g20, g21, g22, g23, g24, g25, g26, g27, g28, g29, g30, g31, g32])) :: bX11 a2 uq kq q_q ([(a3, .inl (cB34, 26, .inl m_v))])) s.heap := hP
  have hl := lv_entry ([.ref a0, .int k1]) (n := 4) (Nat.le_of_ble_eq_true rfl)
  rw [lg_entry_eq]
  generalize (lg_sl ([.ref a0, .int k1]) ++ List.replicate (4 - (lg_sl ([.ref a0, .int k1])).length) Slot.unset).toArray = ls at hl ⊢
  have hl : lv_has ls 4 [(0, .ref a0), (1, .int k1)] := hl
  refine W_q (fun QQ hQQ => ?_)
  rw [f_X12_led] at h
  refine lv_aload_n hx hb (zat zrX12_led_0_ok 0 rfl) rfl (lv_at hl 0 rfl) ?_
  refine lv_iconst (v := 0) hx hb (zat zrX12_led_0_ok 1 rfl) (by decide) ?_
  refine va_put (D := (dC, dI)) (ci := 9) (v := .int 0) (ty := .int) (C := RX12) (T := TX12) (N := 30) hx hb hts ifX12_led_X12 tyX12 tyX12_ok nmX12 hown hK hP hD hS 0 rfl rfl 0 (by decide) (hts (.fieldLink RX12 36 "HookPierModel" "thrown" "I") (List.mem_of_getElem? (i := 1) rfl)) (fun _ h9 => h9) rfl (by decide +kernel) rfl rfl (Nat.le_of_ble_eq_true rfl) (zat zrX12_led_0_ok 2 rfl) (fun H locs hP hD hS => ?_)
  obtain ⟨hP, hD⟩ := pd_mk ((a0, .inr (9, [.int 0, .int m_t.2.1, .int m_t.2.2, .ref a2, g8, g9, g10, g11, g12, g13, g14, g15, g16, g17, g18, .ref a3, g19, g20, g21, g22, g23, g24, g25, g26, g27, g28, g29, g30, g31, g32])) :: bX11 a2 uq kq q_q ([(a3, .inl (cB34, 26, .inl m_v))])) hP hD
  refine lv_iconst (v := 0) hx hb (zat zrX12_led_0_ok 3 rfl) (by decide) ?_
  refine lv_istore_n (lv' := [(2, .int 0), (0, .ref a0), (1, .int k1)]) hx hb (zat zrX12_led_0_ok 4 rfl) rfl hl (by decide) rfl (fun ls hl => ?_)
  refine lv_iconst (v := 0) hx hb (zat zrX12_led_0_ok 5 rfl) (by decide) ?_
  refine lv_istore_n (lv' := [(3, .int 0), (2, .int 0), (0, .ref a0), (1, .int k1)]) hx hb (zat zrX12_led_0_ok 6 rfl) rfl hl (by decide) rfl (fun ls hl => ?_)
  have L9 : ∀ (n9 : Nat) (v9_l3 : Int32) (v9_l2 : Int32) (H : Heap) (locs : List Loc) (ls : Array Slot), f_X12_led_L9 k1 m_t m_v q_q n9 v9_l3 v9_l2 = some out → va_P (dC, dI) vwCl ((a0, .inr (9, [.int 0, .int m_t.2.1, .int m_t.2.2, .ref a2, g8, g9, g10, g11, g12, g13, g14, g15, g16, g17, g18, .ref a3, g19, g20, g21, g22, g23, g24, g25, g26, g27, g28, g29, g30, g31, g32])) :: bX11 a2 uq kq q_q ([(a3, .inl (cB34, 26, .inl m_v))])) H → va_D A ((a0, .inr (9, [.int 0, .int m_t.2.1, .int m_t.2.2, .ref a2, g8, g9, g10, g11, g12, g13, g14, g15, g16, g17, g18, .ref a3, g19, g20, g21, g22, g23, g24, g25, g26, g27, g28, g29, g30, g31, g32])) :: bX11 a2 uq kq q_q ([(a3, .inl (cB34, 26, .inl m_v))])) → va_S A s.heap H locs → lv_has ls 4 [(3, .int v9_l3), (2, .int v9_l2), (0, .ref a0), (1, .int k1)] → W p l e (headSpec vfX12_led { frames := 0, cells := 0, slots := 0, locals := 0 }).room s m ([.ref a0, .int k1]).toArray below meth c H locs 0 0 QQ (F0 m 9 ls []) := by
    intro n9
    induction n9 with
    | zero =>
      intro v9_l3 v9_l2 H locs ls h  _ _ _ _
      rw [f_X12_led_L9] at h
      cases h
    | succ n9 ih9 =>
      intro v9_l3 v9_l2 H locs ls h  hP hD hS hl
      rw [f_X12_led_L9] at h
      refine lv_aload_n hx hb (zat zrX12_led_0_ok 7 rfl) rfl (lv_at hl 2 rfl) ?_
      refine va_get (D := (dC, dI)) (ci := 9) (v := .ref a2) (C := RX12) (T := TX12) (N := 30) hx hb hts ifX12_led_X12 hown hK hP 0 rfl rfl 3 (by decide) (hts (.fieldLink RX12 299 "HookPierModel" "pier" "LHookPierModel$Pier;") (List.mem_of_getElem? (i := 2) rfl)) (fun _ h9 => h9) rfl (zat zrX12_led_0_ok 8 rfl) ?_
      refine lv_ifnull hx hb (zat zrX12_led_0_ok 9 rfl) ?_
      refine lv_iload_n hx hb (zat zrX12_led_0_ok 10 rfl) rfl (lv_at hl 0 rfl) ?_
      refine lv_aload_n hx hb (zat zrX12_led_0_ok 11 rfl) rfl (lv_at hl 2 rfl) ?_
      refine va_get (D := (dC, dI)) (ci := 9) (v := .ref a2) (C := RX12) (T := TX12) (N := 30) hx hb hts ifX12_led_X12 hown hK hP 0 rfl rfl 3 (by decide) (hts (.fieldLink RX12 299 "HookPierModel" "pier" "LHookPierModel$Pier;") (List.mem_of_getElem? (i := 2) rfl)) (fun _ h9 => h9) rfl (zat zrX12_led_0_ok 12 rfl) ?_
      refine va_getN (D := (dC, dI)) (ci := 8) (v := .int q_q.2.2.2.2.2.2.1) (C := RX11) (T := TX11) (N := 24) hx hb hts ifX12_led_X11 hown hK hP 1 rfl rfl 6 (by decide) (va_Nw.use rfl (hN.1 (.fieldLinkNest RX12 231 "HookPierModel$Pier" "answers" "I" "HookPierModel") (List.mem_of_getElem? (i := 28) rfl))) (fun _ h9 => h9) rfl (zat zrX12_led_0_ok 13 rfl) ?_
      refine lv_icmp_ge (tgt := 57) hx hb (zat zrX12_led_0_ok 14 rfl) (by decide) (fun c24 => ?_) (fun c24 => ?_)
      · have h := (if_pos c24).symm.trans h
        refine lv_aload_n hx hb (zat zrX12_led_0_ok 31 rfl) rfl (lv_at hl 2 rfl) ?_
        refine lv_iconst (v := 1) hx hb (zat zrX12_led_0_ok 32 rfl) (by decide) ?_
        refine va_put (D := (dC, dI)) (ci := 9) (v := .int 1) (ty := .int) (C := RX12) (T := TX12) (N := 30) hx hb hts ifX12_led_X12 tyX12 tyX12_ok nmX12 hown hK hP hD hS 0 rfl rfl 0 (by decide) (hts (.fieldLink RX12 36 "HookPierModel" "thrown" "I") (List.mem_of_getElem? (i := 1) rfl)) (fun _ h9 => h9) rfl (by decide +kernel) rfl rfl (Nat.le_of_ble_eq_true rfl) (zat zrX12_led_0_ok 33 rfl) (fun H locs hP hD hS => ?_)
        obtain ⟨hP, hD⟩ := pd_mk ((a0, .inr (9, [.int 1, .int m_t.2.1, .int m_t.2.2, .ref a2, g8, g9, g10, g11, g12, g13, g14, g15, g16, g17, g18, .ref a3, g19, g20, g21, g22, g23, g24, g25, g26, g27, g28, g29, g30, g31, g32])) :: bX11 a2 uq kq q_q ([(a3, .inl (cB34, 26, .inl m_v))])) hP hD
        refine lv_iconst (v := 0) hx hb (zat zrX12_led_0_ok 34 rfl) (by decide) ?_
        obtain rfl := Option.some.inj h
        obtain ⟨hP9, hD9⟩ := pd_sub ((a0, .inr (9, [.int 1, .int m_t.2.1, .int m_t.2.2, .ref a2, g8, g9, g10, g11, g12, g13, g14, g15, g16, g17, g18, .ref a3, g19, g20, g21, g22, g23, g24, g25, g26, g27, g28, g29, g30, g31, g32])) :: bX11 a2 uq kq q_q ([(a3, .inl (cB34, 26, .inl m_v))])) [0, 1, 2, 3, 4, 5, 6, 7, 8, 9, 10, 11, 12, 13, 14, 15, 16] hP hD (by decide) rfl
        have hK9 := hK.sub (tys' := []) [] rfl
        rw [hQQ]
        exact W.iret (v := (0 : Int32)) hx hb hr (fun t ht hW => ⟨⟨(0 : Int32), (), rfl, rfl, by rw [ht]; exact hP9, va_K.moved hW.alike hK9, hD9⟩, hS.F ht⟩) hS.2.2 (zat zrX12_led_0_ok 35 rfl)
      · have h := (if_neg c24).symm.trans h
        refine lv_aload_n hx hb (zat zrX12_led_0_ok 15 rfl) rfl (lv_at hl 2 rfl) ?_
        refine va_get (D := (dC, dI)) (ci := 9) (v := .ref a3) (C := RX12) (T := TX12) (N := 30) hx hb hts ifX12_led_X12 hown hK hP 0 rfl rfl 15 (by decide) (hts (.fieldLink RX12 17 "HookPierModel" "v" "[I") (List.mem_of_getElem? (i := 3) rfl)) (fun _ h9 => h9) rfl (zat zrX12_led_0_ok 16 rfl) ?_
        refine lv_iconst (v := 0) hx hb (zat zrX12_led_0_ok 17 rfl) (by decide) ?_
        refine lv_iload_n hx hb (zat zrX12_led_0_ok 18 rfl) rfl (lv_at hl 0 rfl) ?_
        refine lv_iadd hx hb (zat zrX12_led_0_ok 19 rfl) ?_
        obtain ⟨hg34, h⟩ := gA_of h
        refine va_iald hx hb hK hP 16 14 rfl rfl hg34 (zat zrX12_led_0_ok 20 rfl) ?_
        have J51 : ∀ (v51_l2 : Int32) (H : Heap) (locs : List Loc) (ls : Array Slot), f_X12_led_J51 (f_X12_led_L9 k1 m_t m_v q_q n9) v9_l3 v51_l2 = some out → va_P (dC, dI) vwCl ((a0, .inr (9, [.int 0, .int m_t.2.1, .int m_t.2.2, .ref a2, g8, g9, g10, g11, g12, g13, g14, g15, g16, g17, g18, .ref a3, g19, g20, g21, g22, g23, g24, g25, g26, g27, g28, g29, g30, g31, g32])) :: bX11 a2 uq kq q_q ([(a3, .inl (cB34, 26, .inl m_v))])) H → va_D A ((a0, .inr (9, [.int 0, .int m_t.2.1, .int m_t.2.2, .ref a2, g8, g9, g10, g11, g12, g13, g14, g15, g16, g17, g18, .ref a3, g19, g20, g21, g22, g23, g24, g25, g26, g27, g28, g29, g30, g31, g32])) :: bX11 a2 uq kq q_q ([(a3, .inl (cB34, 26, .inl m_v))])) → va_S A s.heap H locs → lv_has ls 4 [(2, .int v51_l2), (3, .int v9_l3), (0, .ref a0), (1, .int k1)] → W p l e (headSpec vfX12_led { frames := 0, cells := 0, slots := 0, locals := 0 }).room s m ([.ref a0, .int k1]).toArray below meth c H locs 0 0 QQ (F0 m 51 ls []) := by
          intro v51_l2 H locs ls h  hP hD hS hl
          rw [f_X12_led_J51] at h
          refine lv_iinc (v := (v9_l3 + (1 : Int32))) (lv' := [(3, .int (v9_l3 + (1 : Int32))), (2, .int v51_l2), (0, .ref a0), (1, .int k1)]) hx hb (zat zrX12_led_0_ok 29 rfl) hl (k := 1) rfl rfl (by decide) rfl (fun ls hl => ?_)
          refine lv_goto (tgt := 9) hx hb (zat zrX12_led_0_ok 30 rfl) (by decide) ?_
          exact ih9 (v9_l3 + (1 : Int32)) v51_l2 H _ ls h  hP hD hS (lv_sub hl [0, 1, 2, 3] rfl)
        refine lv_if_ne (tgt := 41) hx hb (zat zrX12_led_0_ok 21 rfl) (by decide) (fun c35 => ?_) (fun c35 => ?_)
        · have h := (if_neg c35).symm.trans h
          refine lv_iload_n hx hb (zat zrX12_led_0_ok 23 rfl) rfl (lv_at hl 1 rfl) ?_
          refine lv_iload_n hx hb (zat zrX12_led_0_ok 24 rfl) rfl (lv_at hl 3 rfl) ?_
          refine lv_icmp_ne (tgt := 48) hx hb (zat zrX12_led_0_ok 25 rfl) (by decide) (fun c43 => ?_) (fun c43 => ?_)
          · have h := (if_neg c43).symm.trans h
            refine lv_iinc (v := (v9_l2 + (1 : Int32))) (lv' := [(2, .int (v9_l2 + (1 : Int32))), (3, .int v9_l3), (0, .ref a0), (1, .int k1)]) hx hb (zat zrX12_led_0_ok 28 rfl) hl (k := 1) rfl rfl (by decide) rfl (fun ls hl => ?_)
            exact J51 (v9_l2 + (1 : Int32)) H _ ls h  hP hD hS (lv_sub hl [0, 1, 2, 3] rfl)
          · have h := (if_pos c43).symm.trans h
            refine lv_iload_n hx hb (zat zrX12_led_0_ok 26 rfl) rfl (lv_at hl 0 rfl) ?_
            obtain rfl := Option.some.inj h
            obtain ⟨hP9, hD9⟩ := pd_sub ((a0, .inr (9, [.int 0, .int m_t.2.1, .int m_t.2.2, .ref a2, g8, g9, g10, g11, g12, g13, g14, g15, g16, g17, g18, .ref a3, g19, g20, g21, g22, g23, g24, g25, g26, g27, g28, g29, g30, g31, g32])) :: bX11 a2 uq kq q_q ([(a3, .inl (cB34, 26, .inl m_v))])) [0, 1, 2, 3, 4, 5, 6, 7, 8, 9, 10, 11, 12, 13, 14, 15, 16] hP hD (by decide) rfl
            have hK9 := hK.sub (tys' := []) [] rfl
            rw [hQQ]
            exact W.iret (v := v9_l3) hx hb hr (fun t ht hW => ⟨⟨v9_l3, (), rfl, rfl, by rw [ht]; exact hP9, va_K.moved hW.alike hK9, hD9⟩, hS.F ht⟩) hS.2.2 (zat zrX12_led_0_ok 27 rfl)
        · have h := (if_pos c35).symm.trans h
          refine lv_goto (tgt := 51) hx hb (zat zrX12_led_0_ok 22 rfl) (by decide) ?_
          exact J51 v9_l2 H _ ls h  hP hD hS (lv_sub hl [1, 0, 2, 3] rfl)
  exact L9 FU (0 : Int32) (0 : Int32) H _ ls h  hP hD hS (lv_sub hl [0, 1, 2, 3] rfl)
def vfX12_isAnswer_nul : List Cond := List.cons (.code yX12_isAnswer cX12_isAnswer 2 (some .boolean)) (apW [.fieldLink RX12 299 "HookPierModel" "pier" "LHookPierModel$Pier;"] (wsX120))
theorem ifX12_isAnswer_nul_X12 : ∀ w ∈ wsX120, w ∈ vfX12_isAnswer_nul := fun _ h => (List.mem_cons_of_mem _ (List.mem_append_right _ h))
theorem qfX12_isAnswer_nul : Good vfX12_isAnswer_nul := gd_cons (by decide +kernel) (gd_app (gd_dec (by decide +kernel) : Good [.fieldLink RX12 299 "HookPierModel" "pier" "LHookPierModel$Pier;"]) qsX12)
set_option maxHeartbeats 2000000 in
set_option maxRecDepth 100000 in
theorem kfX12_isAnswer_nul (l : Launch) (dC : Nat → ClassId) (dI : Nat → Nat → Nat) (a0 : Nat) (k1 : Int32) (g2 : Value) (g3 : Value) (g4 : Value) (g5 : Value) (g6 : Value) (g7 : Value) (g8 : Value) (g9 : Value) (g10 : Value) (g11 : Value) (g12 : Value) (g13 : Value) (g14 : Value) (g15 : Value) (g16 : Value) (g17 : Value) (g18 : Value) (g19 : Value) (g20 : Value) (g21 : Value) (g22 : Value) (g23 : Value) (g24 : Value) (g25 : Value) (g26 : Value) (g27 : Value) (g28 : Value) (g29 : Value) (g30 : Value) (sz : Nat) (out : Unit) (h : f_X12_isAnswer_nul k1 = out) : KDi l yX12_isAnswer vfX12_isAnswer_nul ({ frames := 0, cells := 0, slots := 0, locals := 0 }) (dC, dI) [.ref a0, .int k1] sz ([(a0, .inr (9, [g2, g3, g4, .null, g5, g6, g7, g8, g9, g10, g11, g12, g13, g14, g15, g16, g17, g18, g19, g20, g21, g22, g23, g24, g25, g26, g27, g28, g29, g30]))]) ([]) (fun (r : Int32) _ => r = 0 ∧ (0 ≤ r.toInt ∧ r.toInt ≤ 1)) 0 0 := by
  refine Met.ofW (cc := cX12_isAnswer) (maxL := 2) (ret := (some .boolean)) (by decide) rfl ?_
  intro p e s m args below meth c s₁ B0 hml hv
  obtain ⟨rfl, hsz, hP, hK, hD0, hN⟩ := hv
  have hx := B0.exec
  have hb := B0.bytes
  have hr := B0.returns
  have hts := atoms_spec (ws := vfX12_isAnswer_nul) B0.pre
  have hown : s.vm.findClass RX12 = some m.cls := findClass_of_methodNamed B0.named
  have hlocks := B0.notSynchronized
  subst hsz
  have hD := hD0.self (sz := s.heap.size)
  generalize hAe : va_A ([(a0, .inr (9, [g2, g3, g4, .null, g5, g6, g7, g8, g9, g10, g11, g12, g13, g14, g15, g16, g17, g18, g19, g20, g21, g22, g23, g24, g25, g26, g27, g28, g29, g30]))]) s.heap.size = A at hD ⊢
  have hA : ∀ q : Nat, s.heap.size ≤ q → A q := fun q h => by rw [← hAe]; exact Or.inr h
  have hS : va_S A s.heap s.heap [] := va_S.rf
  have hP : va_P (dC, dI) vwCl ([(a0, .inr (9, [g2, g3, g4, .null, g5, g6, g7, g8, g9, g10, g11, g12, g13, g14, g15, g16, g17, g18, g19, g20, g21, g22, g23, g24, g25, g26, g27, g28, g29, g30]))]) s.heap := hP
  have hl := lv_entry ([.ref a0, .int k1]) (n := 2) (Nat.le_of_ble_eq_true rfl)
  rw [lg_entry_eq]
  generalize (lg_sl ([.ref a0, .int k1]) ++ List.replicate (2 - (lg_sl ([.ref a0, .int k1])).length) Slot.unset).toArray = ls at hl ⊢
  have hl : lv_has ls 2 [(0, .ref a0), (1, .int k1)] := hl
  refine W_q (fun QQ hQQ => ?_)
  rw [f_X12_isAnswer_nul] at h
  refine lv_aload_n hx hb (zat zrX12_isAnswer_0_ok 0 rfl) rfl (lv_at hl 0 rfl) ?_
  refine va_get (D := (dC, dI)) (ci := 9) (v := .null) (C := RX12) (T := TX12) (N := 30) hx hb hts ifX12_isAnswer_nul_X12 hown hK hP 0 rfl rfl 3 (by decide) (hts (.fieldLink RX12 299 "HookPierModel" "pier" "LHookPierModel$Pier;") (List.mem_of_getElem? (i := 1) rfl)) (fun _ h9 => h9) rfl (zat zrX12_isAnswer_0_ok 1 rfl) ?_
  refine lv_ifnullN (tgt := 26) hx hb (zat zrX12_isAnswer_0_ok 2 rfl) (by decide) ?_
  refine lv_iconst (v := 0) hx hb (zat zrX12_isAnswer_0_ok 12 rfl) (by decide) ?_
  obtain ⟨hP9, hD9⟩ := pd_sub ([(a0, .inr (9, [g2, g3, g4, .null, g5, g6, g7, g8, g9, g10, g11, g12, g13, g14, g15, g16, g17, g18, g19, g20, g21, g22, g23, g24, g25, g26, g27, g28, g29, g30]))]) [0] hP hD (by decide) rfl
  have hK9 := hK.sub (tys' := []) [] rfl
  rw [hQQ]
  exact W.zret (v := (0 : Int32)) hx hb hr rfl (fun t ht hW => ⟨⟨(0 : Int32), (), rfl, ⟨rfl, (by decide)⟩, by rw [ht]; exact hP9, va_K.moved hW.alike hK9, hD9⟩, hS.F ht⟩) hS.2.2 (zat zrX12_isAnswer_0_ok 13 rfl)
def vfX12_refused_nul : List Cond := List.cons (.code yX12_refused cX12_refused 2 (some .int)) (apW [.fieldLink RX12 39 "HookPierModel" "trouble" "I", .fieldLink RX12 9 "HookPierModel" "where" "I"] (wsX120))
theorem ifX12_refused_nul_X12 : ∀ w ∈ wsX120, w ∈ vfX12_refused_nul := fun _ h => (List.mem_cons_of_mem _ (List.mem_append_right _ h))
theorem qfX12_refused_nul : Good vfX12_refused_nul := gd_cons (by decide +kernel) (gd_app (gd_dec (by decide +kernel) : Good [.fieldLink RX12 39 "HookPierModel" "trouble" "I", .fieldLink RX12 9 "HookPierModel" "where" "I"]) qsX12)
set_option maxHeartbeats 2000000 in
set_option maxRecDepth 100000 in
theorem kfX12_refused_nul (l : Launch) (dC : Nat → ClassId) (dI : Nat → Nat → Nat) (a0 : Nat) (k1 : Int32) (m_t : TX12_t) (g3 : Value) (g4 : Value) (g5 : Value) (g6 : Value) (g7 : Value) (g8 : Value) (g9 : Value) (g10 : Value) (g11 : Value) (g12 : Value) (g13 : Value) (g14 : Value) (g15 : Value) (g16 : Value) (g17 : Value) (g18 : Value) (g19 : Value) (g20 : Value) (g21 : Value) (g22 : Value) (g23 : Value) (g24 : Value) (g25 : Value) (g26 : Value) (g27 : Value) (g28 : Value) (g29 : Value) (sz : Nat) (out : TX12_t) (h : f_X12_refused_nul k1 m_t = out) : KCi l yX12_refused vfX12_refused_nul ({ frames := 0, cells := 0, slots := 0, locals := 0 }) (dC, dI) [.ref a0, .int k1] sz ([(a0, .inr (9, [.int m_t.1, .int m_t.2.1, .int m_t.2.2, g3, g4, g5, g6, g7, g8, g9, g10, g11, g12, g13, g14, g15, g16, g17, g18, g19, g20, g21, g22, g23, g24, g25, g26, g27, g28, g29]))]) ([]) (fun (r : Int32) _ => r = (-1)) ([(a0, .inr (9, [.int out.1, .int out.2.1, .int out.2.2, g3, g4, g5, g6, g7, g8, g9, g10, g11, g12, g13, g14, g15, g16, g17, g18, g19, g20, g21, g22, g23, g24, g25, g26, g27, g28, g29]))]) 0 0 := by
  refine Met.ofW (cc := cX12_refused) (maxL := 2) (ret := (some .int)) (by decide) rfl ?_
  intro p e s m args below meth c s₁ B0 hml hv
  obtain ⟨rfl, hsz, hP, hK, hD0, hN⟩ := hv
  have hx := B0.exec
  have hb := B0.bytes
  have hr := B0.returns
  have hts := atoms_spec (ws := vfX12_refused_nul) B0.pre
  have hown : s.vm.findClass RX12 = some m.cls := findClass_of_methodNamed B0.named
  have hlocks := B0.notSynchronized
  subst hsz
  have hD := hD0.self (sz := s.heap.size)
  generalize hAe : va_A ([(a0, .inr (9, [.int m_t.1, .int m_t.2.1, .int m_t.2.2, g3, g4, g5, g6, g7, g8, g9, g10, g11, g12, g13, g14, g15, g16, g17, g18, g19, g20, g21, g22, g23, g24, g25, g26, g27, g28, g29]))]) s.heap.size = A at hD ⊢
  have hA : ∀ q : Nat, s.heap.size ≤ q → A q := fun q h => by rw [← hAe]; exact Or.inr h
  have hS : va_S A s.heap s.heap [] := va_S.rf
  have hP : va_P (dC, dI) vwCl ([(a0, .inr (9, [.int m_t.1, .int m_t.2.1, .int m_t.2.2, g3, g4, g5, g6, g7, g8, g9, g10, g11, g12, g13, g14, g15, g16, g17, g18, g19, g20, g21, g22, g23, g24, g25, g26, g27, g28, g29]))]) s.heap := hP
  have hl := lv_entry ([.ref a0, .int k1]) (n := 2) (Nat.le_of_ble_eq_true rfl)
  rw [lg_entry_eq]
  generalize (lg_sl ([.ref a0, .int k1]) ++ List.replicate (2 - (lg_sl ([.ref a0, .int k1])).length) Slot.unset).toArray = ls at hl ⊢
  have hl : lv_has ls 2 [(0, .ref a0), (1, .int k1)] := hl
  refine W_q (fun QQ hQQ => ?_)
  rw [f_X12_refused_nul] at h
  refine lv_aload_n hx hb (zat zrX12_refused_0_ok 0 rfl) rfl (lv_at hl 0 rfl) ?_
  refine lv_iload_n hx hb (zat zrX12_refused_0_ok 1 rfl) rfl (lv_at hl 1 rfl) ?_
  refine va_put (D := (dC, dI)) (ci := 9) (v := .int k1) (ty := .int) (C := RX12) (T := TX12) (N := 30) hx hb hts ifX12_refused_nul_X12 tyX12 tyX12_ok nmX12 hown hK hP hD hS 0 rfl rfl 1 (by decide) (hts (.fieldLink RX12 39 "HookPierModel" "trouble" "I") (List.mem_of_getElem? (i := 1) rfl)) (fun _ h9 => h9) rfl (by decide +kernel) rfl rfl (Nat.le_of_ble_eq_true rfl) (zat zrX12_refused_0_ok 2 rfl) (fun H locs hP hD hS => ?_)
  obtain ⟨hP, hD⟩ := pd_mk ([(a0, .inr (9, [.int m_t.1, .int k1, .int m_t.2.2, g3, g4, g5, g6, g7, g8, g9, g10, g11, g12, g13, g14, g15, g16, g17, g18, g19, g20, g21, g22, g23, g24, g25, g26, g27, g28, g29]))]) hP hD
  refine lv_aload_n hx hb (zat zrX12_refused_0_ok 3 rfl) rfl (lv_at hl 0 rfl) ?_
  refine lv_iconst (v := (-1)) hx hb (zat zrX12_refused_0_ok 4 rfl) (by decide) ?_
  refine va_put (D := (dC, dI)) (ci := 9) (v := .int (-1)) (ty := .int) (C := RX12) (T := TX12) (N := 30) hx hb hts ifX12_refused_nul_X12 tyX12 tyX12_ok nmX12 hown hK hP hD hS 0 rfl rfl 2 (by decide) (hts (.fieldLink RX12 9 "HookPierModel" "where" "I") (List.mem_of_getElem? (i := 2) rfl)) (fun _ h9 => h9) rfl (by decide +kernel) rfl rfl (Nat.le_of_ble_eq_true rfl) (zat zrX12_refused_0_ok 5 rfl) (fun H locs hP hD hS => ?_)
  obtain ⟨hP, hD⟩ := pd_mk ([(a0, .inr (9, [.int m_t.1, .int k1, .int (-1), g3, g4, g5, g6, g7, g8, g9, g10, g11, g12, g13, g14, g15, g16, g17, g18, g19, g20, g21, g22, g23, g24, g25, g26, g27, g28, g29]))]) hP hD
  refine lv_iconst (v := (-1)) hx hb (zat zrX12_refused_0_ok 6 rfl) (by decide) ?_
  obtain rfl := h
  obtain ⟨hP9, hD9⟩ := pd_sub ([(a0, .inr (9, [.int m_t.1, .int k1, .int (-1), g3, g4, g5, g6, g7, g8, g9, g10, g11, g12, g13, g14, g15, g16, g17, g18, g19, g20, g21, g22, g23, g24, g25, g26, g27, g28, g29]))]) [0] hP hD (by decide) rfl
  have hK9 := hK.sub (tys' := []) [] rfl
  rw [hQQ]
  exact W.iret (v := (-1 : Int32)) hx hb hr (fun t ht hW => ⟨⟨(-1 : Int32), (), rfl, rfl, by rw [ht]; exact hP9, va_K.moved hW.alike hK9, hD9⟩, hS.F ht⟩) hS.2.2 (zat zrX12_refused_0_ok 7 rfl)
def vfX12_answer_nul : List Cond := List.cons (.code yX12_answer cX12_answer 3 (some .int)) (apW [.fieldLink RX12 36 "HookPierModel" "thrown" "I", .methodLink RX12 320 yX12_isAnswer, .instanceMethod yX12_isAnswer, .selects RX12 yX12_isAnswer yX12_isAnswer, .initialized RX12, .methodLink RX12 42 yX12_refused, .instanceMethod yX12_refused, .selects RX12 yX12_refused yX12_refused] (apW wsX120 (apW vfX12_isAnswer_nul (vfX12_refused_nul))))
theorem ifX12_answer_nul_X12 : ∀ w ∈ wsX120, w ∈ vfX12_answer_nul := fun _ h => (List.mem_cons_of_mem _ (List.mem_append_right _ (List.mem_append_left _ h)))
theorem qfX12_answer_nul : Good vfX12_answer_nul := gd_cons (by decide +kernel) (gd_app (gd_dec (by decide +kernel) : Good [.fieldLink RX12 36 "HookPierModel" "thrown" "I", .methodLink RX12 320 yX12_isAnswer, .instanceMethod yX12_isAnswer, .selects RX12 yX12_isAnswer yX12_isAnswer, .initialized RX12, .methodLink RX12 42 yX12_refused, .instanceMethod yX12_refused, .selects RX12 yX12_refused yX12_refused]) (gd_app qsX12 (gd_app qfX12_isAnswer_nul qfX12_refused_nul)))
theorem gfX12_answer_nul_0 : GoodIn vfX12_answer_nul (wsV RX12 320 RX12 yX12_isAnswer vfX12_isAnswer_nul) := goodIn_app (goodIn_r [.methodLink RX12 320 yX12_isAnswer, .instanceMethod yX12_isAnswer, .selects RX12 yX12_isAnswer yX12_isAnswer, .initialized RX12] [2, 3, 4, 5] rfl (by decide +kernel)) (goodIn_m (fun _ h => (List.mem_cons_of_mem _ (List.mem_append_right _ (List.mem_append_right _ (List.mem_append_left _ h))))) qfX12_isAnswer_nul)
theorem gfX12_answer_nul_1 : GoodIn vfX12_answer_nul (wsV RX12 42 RX12 yX12_refused vfX12_refused_nul) := goodIn_app (goodIn_r [.methodLink RX12 42 yX12_refused, .instanceMethod yX12_refused, .selects RX12 yX12_refused yX12_refused, .initialized RX12] [6, 7, 8, 5] rfl (by decide +kernel)) (goodIn_m (fun _ h => (List.mem_cons_of_mem _ (List.mem_append_right _ (List.mem_append_right _ (List.mem_append_right _ h))))) qfX12_refused_nul)
set_option maxHeartbeats 2000000 in
set_option maxRecDepth 100000 in
theorem kfX12_answer_nul (l : Launch) (dC : Nat → ClassId) (dI : Nat → Nat → Nat) (a0 : Nat) (k1 : Int32) (k2 : Int32) (m_t : TX12_t) (g4 : Value) (g5 : Value) (g6 : Value) (g7 : Value) (g8 : Value) (g9 : Value) (g10 : Value) (g11 : Value) (g12 : Value) (g13 : Value) (g14 : Value) (g15 : Value) (g16 : Value) (g17 : Value) (g18 : Value) (g19 : Value) (g20 : Value) (g21 : Value) (g22 : Value) (g23 : Value) (g24 : Value) (g25 : Value) (g26 : Value) (g27 : Value) (g28 : Value) (g29 : Value) (sz : Nat) (out : TX12_t) (h : f_X12_answer_nul k1 k2 m_t = out) : KCi l yX12_answer vfX12_answer_nul ({ frames := 1, cells := 0, slots := 0, locals := 21 }) (dC, dI) [.ref a0, .int k1, .int k2] sz ([(a0, .inr (9, [.int m_t.1, .int m_t.2.1, .int m_t.2.2, .null, g4, g5, g6, g7, g8, g9, g10, g11, g12, g13, g14, g15, g16, g17, g18, g19, g20, g21, g22, g23, g24, g25, g26, g27, g28, g29]))]) ([]) (fun (r : Int32) _ => r = (-1)) ([(a0, .inr (9, [.int out.1, .int out.2.1, .int out.2.2, .null, g4, g5, g6, g7, g8, g9, g10, g11, g12, g13, g14, g15, g16, g17, g18, g19, g20, g21, g22, g23, g24, g25, g26, g27, g28, g29]))]) 0 0 := by
  refine Met.ofW (cc := cX12_answer) (maxL := 3) (ret := (some .int)) (by decide) rfl ?_
  intro p e s m args below meth c s₁ B0 hml hv
  obtain ⟨rfl, hsz, hP, hK, hD0, hN⟩ := hv
  have hx := B0.exec
  have hb := B0.bytes
  have hr := B0.returns
  have hts := atoms_spec (ws := vfX12_answer_nul) B0.pre
  have hown : s.vm.findClass RX12 = some m.cls := findClass_of_methodNamed B0.named
  have hlocks := B0.notSynchronized
  subst hsz
  have hD := hD0.self (sz := s.heap.size)
  generalize hAe : va_A ([(a0, .inr (9, [.int m_t.1, .int m_t.2.1, .int m_t.2.2, .null, g4, g5, g6, g7, g8, g9, g10, g11, g12, g13, g14, g15, g16, g17, g18, g19, g20, g21, g22, g23, g24, g25, g26, g27, g28, g29]))]) s.heap.size = A at hD ⊢
  have hA : ∀ q : Nat, s.heap.size ≤ q → A q := fun q h => by rw [← hAe]; exact Or.inr h
  have hS : va_S A s.heap s.heap [] := va_S.rf
  have hP : va_P (dC, dI) vwCl ([(a0, .inr (9, [.int m_t.1, .int m_t.2.1, .int m_t.2.2, .null, g4, g5, g6, g7, g8, g9, g10, g11, g12, g13, g14, g15, g16, g17, g18, g19, g20, g21, g22, g23, g24, g25, g26, g27, g28, g29]))]) s.heap := hP
  have hl := lv_entry ([.ref a0, .int k1, .int k2]) (n := 3) (Nat.le_of_ble_eq_true rfl)
  rw [lg_entry_eq]
  generalize (lg_sl ([.ref a0, .int k1, .int k2]) ++ List.replicate (3 - (lg_sl ([.ref a0, .int k1, .int k2])).length) Slot.unset).toArray = ls at hl ⊢
  have hl : lv_has ls 3 [(0, .ref a0), (1, .int k1), (2, .int k2)] := hl
  refine W_q (fun QQ hQQ => ?_)
  rw [f_X12_answer_nul] at h
  refine lv_aload_n hx hb (zat zrX12_answer_0_ok 0 rfl) rfl (lv_at hl 0 rfl) ?_
  refine lv_iconst (v := 0) hx hb (zat zrX12_answer_0_ok 1 rfl) (by decide) ?_
  refine va_put (D := (dC, dI)) (ci := 9) (v := .int 0) (ty := .int) (C := RX12) (T := TX12) (N := 30) hx hb hts ifX12_answer_nul_X12 tyX12 tyX12_ok nmX12 hown hK hP hD hS 0 rfl rfl 0 (by decide) (hts (.fieldLink RX12 36 "HookPierModel" "thrown" "I") (List.mem_of_getElem? (i := 1) rfl)) (fun _ h9 => h9) rfl (by decide +kernel) rfl rfl (Nat.le_of_ble_eq_true rfl) (zat zrX12_answer_0_ok 2 rfl) (fun H locs hP hD hS => ?_)
  obtain ⟨hP, hD⟩ := pd_mk ([(a0, .inr (9, [.int 0, .int m_t.2.1, .int m_t.2.2, .null, g4, g5, g6, g7, g8, g9, g10, g11, g12, g13, g14, g15, g16, g17, g18, g19, g20, g21, g22, g23, g24, g25, g26, g27, g28, g29]))]) hP hD
  refine lv_aload_n hx hb (zat zrX12_answer_0_ok 3 rfl) rfl (lv_at hl 0 rfl) ?_
  refine lv_iload_n hx hb (zat zrX12_answer_0_ok 4 rfl) rfl (lv_at hl 1 rfl) ?_
  refine ck_i (wc := ([(a0, .inr (9, [.int 0, .int m_t.2.1, .int m_t.2.2, .null, g4, g5, g6, g7, g8, g9, g10, g11, g12, g13, g14, g15, g16, g17, g18, g19, g20, g21, g22, g23, g24, g25, g26, g27, g28, g29]))])) (wr := []) hP hD hK hS hA [0] [] rfl rfl (by decide) (by decide) (by decide) (fun hPc hDc => (va_runV (As := [.int k1]) (rest := []) ⟨hx, hb, hml, hown, hts⟩ (kfX12_isAnswer_nul l dC dI a0 k1 (.int 0) (.int m_t.2.1) (.int m_t.2.2) (g4) (g5) (g6) (g7) (g8) (g9) (g10) (g11) (g12) (g13) (g14) (g15) (g16) (g17) (g18) (g19) (g20) (g21) (g22) (g23) (g24) (g25) (g26) (g27) (g28) (g29) H.size () rfl) (cwV 1 hts gfX12_answer_nul_0 rfl rfl rfl (by decide +kernel) ⟨(Nat.le_of_ble_eq_true rfl), (Nat.le_of_ble_eq_true rfl)⟩) (PV hPc (hK.sub (tys' := ([])) [] rfl) hDc hN 0 rfl rfl) rfl rfl hl.1 rfl (lv_room (Nat.le_of_ble_eq_true rfl)) (zat zrX12_answer_0_ok 5 rfl) ⟨(Nat.le_of_ble_eq_true rfl), (Nat.le_of_ble_eq_true rfl)⟩)) (fun r7 _ H locs hw hP hD _ hS => ?_)
  obtain ⟨hw, br7⟩ := hw
  obtain rfl := hw
  obtain ⟨hP, hD⟩ := pd_mk ([(a0, .inr (9, [.int 0, .int m_t.2.1, .int m_t.2.2, .null, g4, g5, g6, g7, g8, g9, g10, g11, g12, g13, g14, g15, g16, g17, g18, g19, g20, g21, g22, g23, g24, g25, g26, g27, g28, g29]))]) hP hD
  refine lv_if_eq (tgt := 23) hx hb (zat zrX12_answer_0_ok 6 rfl) (by decide) (fun _ => ?_) (fun c10 => absurd c10 (by decide))
  refine lv_aload_n hx hb (zat zrX12_answer_0_ok 12 rfl) rfl (lv_at hl 0 rfl) ?_
  refine lv_iconst (v := 1) hx hb (zat zrX12_answer_0_ok 13 rfl) (by decide) ?_
  obtain ⟨o25, eo25⟩ : ∃ o, o = f_X12_refused_nul (1 : Int32) ((0 : Int32), m_t.2) := ⟨_, rfl⟩
  have h := nm_of h o25 eo25
  refine ck_i (wc := ([(a0, .inr (9, [.int 0, .int m_t.2.1, .int m_t.2.2, .null, g4, g5, g6, g7, g8, g9, g10, g11, g12, g13, g14, g15, g16, g17, g18, g19, g20, g21, g22, g23, g24, g25, g26, g27, g28, g29]))])) (wr := []) hP hD hK hS hA [0] [] rfl rfl (by decide) (by decide) (by decide) (fun hPc hDc => (va_runV (As := [.int 1]) (rest := []) ⟨hx, hb, hml, hown, hts⟩ (kfX12_refused_nul l dC dI a0 (1 : Int32) ((0 : Int32), m_t.2) (.null) (g4) (g5) (g6) (g7) (g8) (g9) (g10) (g11) (g12) (g13) (g14) (g15) (g16) (g17) (g18) (g19) (g20) (g21) (g22) (g23) (g24) (g25) (g26) (g27) (g28) (g29) H.size o25 eo25.symm) (cwV 1 hts gfX12_answer_nul_1 rfl rfl rfl (by decide +kernel) ⟨(Nat.le_of_ble_eq_true rfl), (Nat.le_of_ble_eq_true rfl)⟩) (PV hPc (hK.sub (tys' := ([])) [] rfl) hDc hN 0 rfl rfl) rfl rfl hl.1 rfl (lv_room (Nat.le_of_ble_eq_true rfl)) (zat zrX12_answer_0_ok 14 rfl) ⟨(Nat.le_of_ble_eq_true rfl), (Nat.le_of_ble_eq_true rfl)⟩)) (fun r25 _ H locs hw hP hD _ hS => ?_)
  obtain rfl := hw
  obtain ⟨hP, hD⟩ := pd_mk ([(a0, .inr (9, [.int o25.1, .int o25.2.1, .int o25.2.2, .null, g4, g5, g6, g7, g8, g9, g10, g11, g12, g13, g14, g15, g16, g17, g18, g19, g20, g21, g22, g23, g24, g25, g26, g27, g28, g29]))]) hP hD
  obtain rfl := h
  obtain ⟨hP9, hD9⟩ := pd_sub ([(a0, .inr (9, [.int o25.1, .int o25.2.1, .int o25.2.2, .null, g4, g5, g6, g7, g8, g9, g10, g11, g12, g13, g14, g15, g16, g17, g18, g19, g20, g21, g22, g23, g24, g25, g26, g27, g28, g29]))]) [0] hP hD (by decide) rfl
  have hK9 := hK.sub (tys' := []) [] rfl
  rw [hQQ]
  exact W.iret (v := (-1 : Int32)) hx hb hr (fun t ht hW => ⟨⟨(-1 : Int32), (), rfl, rfl, by rw [ht]; exact hP9, va_K.moved hW.alike hK9, hD9⟩, hS.F ht⟩) hS.2.2 (zat zrX12_answer_0_ok 15 rfl)
def vfX12_isAsker_nul : List Cond := List.cons (.code yX12_isAsker cX12_isAsker 2 (some .boolean)) (apW [.fieldLink RX12 299 "HookPierModel" "pier" "LHookPierModel$Pier;"] (wsX120))
theorem ifX12_isAsker_nul_X12 : ∀ w ∈ wsX120, w ∈ vfX12_isAsker_nul := fun _ h => (List.mem_cons_of_mem _ (List.mem_append_right _ h))
theorem qfX12_isAsker_nul : Good vfX12_isAsker_nul := gd_cons (by decide +kernel) (gd_app (gd_dec (by decide +kernel) : Good [.fieldLink RX12 299 "HookPierModel" "pier" "LHookPierModel$Pier;"]) qsX12)
set_option maxHeartbeats 2000000 in
set_option maxRecDepth 100000 in
theorem kfX12_isAsker_nul (l : Launch) (dC : Nat → ClassId) (dI : Nat → Nat → Nat) (a0 : Nat) (k1 : Int32) (g2 : Value) (g3 : Value) (g4 : Value) (g5 : Value) (g6 : Value) (g7 : Value) (g8 : Value) (g9 : Value) (g10 : Value) (g11 : Value) (g12 : Value) (g13 : Value) (g14 : Value) (g15 : Value) (g16 : Value) (g17 : Value) (g18 : Value) (g19 : Value) (g20 : Value) (g21 : Value) (g22 : Value) (g23 : Value) (g24 : Value) (g25 : Value) (g26 : Value) (g27 : Value) (g28 : Value) (g29 : Value) (g30 : Value) (sz : Nat) (out : Unit) (h : f_X12_isAsker_nul k1 = out) : KDi l yX12_isAsker vfX12_isAsker_nul ({ frames := 0, cells := 0, slots := 0, locals := 0 }) (dC, dI) [.ref a0, .int k1] sz ([(a0, .inr (9, [g2, g3, g4, .null, g5, g6, g7, g8, g9, g10, g11, g12, g13, g14, g15, g16, g17, g18, g19, g20, g21, g22, g23, g24, g25, g26, g27, g28, g29, g30]))]) ([]) (fun (r : Int32) _ => r = 0 ∧ (0 ≤ r.toInt ∧ r.toInt ≤ 1)) 0 0 := by
  refine Met.ofW (cc := cX12_isAsker) (maxL := 2) (ret := (some .boolean)) (by decide) rfl ?_
  intro p e s m args below meth c s₁ B0 hml hv
  obtain ⟨rfl, hsz, hP, hK, hD0, hN⟩ := hv
  have hx := B0.exec
  have hb := B0.bytes
  have hr := B0.returns
  have hts := atoms_spec (ws := vfX12_isAsker_nul) B0.pre
  have hown : s.vm.findClass RX12 = some m.cls := findClass_of_methodNamed B0.named
  have hlocks := B0.notSynchronized
  subst hsz
  have hD := hD0.self (sz := s.heap.size)
  generalize hAe : va_A ([(a0, .inr (9, [g2, g3, g4, .null, g5, g6, g7, g8, g9, g10, g11, g12, g13, g14, g15, g16, g17, g18, g19, g20, g21, g22, g23, g24, g25, g26, g27, g28, g29, g30]))]) s.heap.size = A at hD ⊢
  have hA : ∀ q : Nat, s.heap.size ≤ q → A q := fun q h => by rw [← hAe]; exact Or.inr h
  have hS : va_S A s.heap s.heap [] := va_S.rf
  have hP : va_P (dC, dI) vwCl ([(a0, .inr (9, [g2, g3, g4, .null, g5, g6, g7, g8, g9, g10, g11, g12, g13, g14, g15, g16, g17, g18, g19, g20, g21, g22, g23, g24, g25, g26, g27, g28, g29, g30]))]) s.heap := hP
  have hl := lv_entry ([.ref a0, .int k1]) (n := 2) (Nat.le_of_ble_eq_true rfl)
  rw [lg_entry_eq]
  generalize (lg_sl ([.ref a0, .int k1]) ++ List.replicate (2 - (lg_sl ([.ref a0, .int k1])).length) Slot.unset).toArray = ls at hl ⊢
  have hl : lv_has ls 2 [(0, .ref a0), (1, .int k1)] := hl
  refine W_q (fun QQ hQQ => ?_)
  rw [f_X12_isAsker_nul] at h
  refine lv_aload_n hx hb (zat zrX12_isAsker_0_ok 0 rfl) rfl (lv_at hl 0 rfl) ?_
  refine va_get (D := (dC, dI)) (ci := 9) (v := .null) (C := RX12) (T := TX12) (N := 30) hx hb hts ifX12_isAsker_nul_X12 hown hK hP 0 rfl rfl 3 (by decide) (hts (.fieldLink RX12 299 "HookPierModel" "pier" "LHookPierModel$Pier;") (List.mem_of_getElem? (i := 1) rfl)) (fun _ h9 => h9) rfl (zat zrX12_isAsker_0_ok 1 rfl) ?_
  refine lv_ifnullN (tgt := 26) hx hb (zat zrX12_isAsker_0_ok 2 rfl) (by decide) ?_
  refine lv_iconst (v := 0) hx hb (zat zrX12_isAsker_0_ok 12 rfl) (by decide) ?_
  obtain ⟨hP9, hD9⟩ := pd_sub ([(a0, .inr (9, [g2, g3, g4, .null, g5, g6, g7, g8, g9, g10, g11, g12, g13, g14, g15, g16, g17, g18, g19, g20, g21, g22, g23, g24, g25, g26, g27, g28, g29, g30]))]) [0] hP hD (by decide) rfl
  have hK9 := hK.sub (tys' := []) [] rfl
  rw [hQQ]
  exact W.zret (v := (0 : Int32)) hx hb hr rfl (fun t ht hW => ⟨⟨(0 : Int32), (), rfl, ⟨rfl, (by decide)⟩, by rw [ht]; exact hP9, va_K.moved hW.alike hK9, hD9⟩, hS.F ht⟩) hS.2.2 (zat zrX12_isAsker_0_ok 13 rfl)
def vfX12_asker_nul : List Cond := List.cons (.code yX12_asker cX12_asker 6 (some .int)) (apW [.fieldLink RX12 36 "HookPierModel" "thrown" "I", .methodLink RX12 334 yX12_isAsker, .instanceMethod yX12_isAsker, .selects RX12 yX12_isAsker yX12_isAsker, .initialized RX12, .methodLink RX12 42 yX12_refused, .instanceMethod yX12_refused, .selects RX12 yX12_refused yX12_refused] (apW wsX120 (apW vfX12_isAsker_nul (vfX12_refused_nul))))
theorem ifX12_asker_nul_X12 : ∀ w ∈ wsX120, w ∈ vfX12_asker_nul := fun _ h => (List.mem_cons_of_mem _ (List.mem_append_right _ (List.mem_append_left _ h)))
theorem qfX12_asker_nul : Good vfX12_asker_nul := gd_cons (by decide +kernel) (gd_app (gd_dec (by decide +kernel) : Good [.fieldLink RX12 36 "HookPierModel" "thrown" "I", .methodLink RX12 334 yX12_isAsker, .instanceMethod yX12_isAsker, .selects RX12 yX12_isAsker yX12_isAsker, .initialized RX12, .methodLink RX12 42 yX12_refused, .instanceMethod yX12_refused, .selects RX12 yX12_refused yX12_refused]) (gd_app qsX12 (gd_app qfX12_isAsker_nul qfX12_refused_nul)))
theorem gfX12_asker_nul_0 : GoodIn vfX12_asker_nul (wsV RX12 334 RX12 yX12_isAsker vfX12_isAsker_nul) := goodIn_app (goodIn_r [.methodLink RX12 334 yX12_isAsker, .instanceMethod yX12_isAsker, .selects RX12 yX12_isAsker yX12_isAsker, .initialized RX12] [2, 3, 4, 5] rfl (by decide +kernel)) (goodIn_m (fun _ h => (List.mem_cons_of_mem _ (List.mem_append_right _ (List.mem_append_right _ (List.mem_append_left _ h))))) qfX12_isAsker_nul)
theorem gfX12_asker_nul_1 : GoodIn vfX12_asker_nul (wsV RX12 42 RX12 yX12_refused vfX12_refused_nul) := goodIn_app (goodIn_r [.methodLink RX12 42 yX12_refused, .instanceMethod yX12_refused, .selects RX12 yX12_refused yX12_refused, .initialized RX12] [6, 7, 8, 5] rfl (by decide +kernel)) (goodIn_m (fun _ h => (List.mem_cons_of_mem _ (List.mem_append_right _ (List.mem_append_right _ (List.mem_append_right _ h))))) qfX12_refused_nul)
set_option maxHeartbeats 2000000 in
set_option maxRecDepth 100000 in
theorem kfX12_asker_nul (l : Launch) (dC : Nat → ClassId) (dI : Nat → Nat → Nat) (a0 : Nat) (k1 : Int32) (k2 : Int32) (m_t : TX12_t) (g4 : Value) (g5 : Value) (g6 : Value) (g7 : Value) (g8 : Value) (g9 : Value) (g10 : Value) (g11 : Value) (g12 : Value) (g13 : Value) (g14 : Value) (g15 : Value) (g16 : Value) (g17 : Value) (g18 : Value) (g19 : Value) (g20 : Value) (g21 : Value) (g22 : Value) (g23 : Value) (g24 : Value) (g25 : Value) (g26 : Value) (g27 : Value) (g28 : Value) (g29 : Value) (sz : Nat) (out : TX12_t) (h : f_X12_asker_nul k1 k2 m_t = out) : KCi l yX12_asker vfX12_asker_nul ({ frames := 1, cells := 0, slots := 0, locals := 21 }) (dC, dI) [.ref a0, .int k1, .int k2] sz ([(a0, .inr (9, [.int m_t.1, .int m_t.2.1, .int m_t.2.2, .null, g4, g5, g6, g7, g8, g9, g10, g11, g12, g13, g14, g15, g16, g17, g18, g19, g20, g21, g22, g23, g24, g25, g26, g27, g28, g29]))]) ([]) (fun (r : Int32) _ => r = (-1)) ([(a0, .inr (9, [.int out.1, .int out.2.1, .int out.2.2, .null, g4, g5, g6, g7, g8, g9, g10, g11, g12, g13, g14, g15, g16, g17, g18, g19, g20, g21, g22, g23, g24, g25, g26, g27, g28, g29]))]) 0 0 := by
  refine Met.ofW (cc := cX12_asker) (maxL := 6) (ret := (some .int)) (by decide) rfl ?_
  intro p e s m args below meth c s₁ B0 hml hv
  obtain ⟨rfl, hsz, hP, hK, hD0, hN⟩ := hv
  have hx := B0.exec
  have hb := B0.bytes
  have hr := B0.returns
  have hts := atoms_spec (ws := vfX12_asker_nul) B0.pre
  have hown : s.vm.findClass RX12 = some m.cls := findClass_of_methodNamed B0.named
  have hlocks := B0.notSynchronized
  subst hsz
  have hD := hD0.self (sz := s.heap.size)
  generalize hAe : va_A ([(a0, .inr (9, [.int m_t.1, .int m_t.2.1, .int m_t.2.2, .null, g4, g5, g6, g7, g8, g9, g10, g11, g12, g13, g14, g15, g16, g17, g18, g19, g20, g21, g22, g23, g24, g25, g26, g27, g28, g29]))]) s.heap.size = A at hD ⊢
  have hA : ∀ q : Nat, s.heap.size ≤ q → A q := fun q h => by rw [← hAe]; exact Or.inr h
  have hS : va_S A s.heap s.heap [] := va_S.rf
  have hP : va_P (dC, dI) vwCl ([(a0, .inr (9, [.int m_t.1, .int m_t.2.1, .int m_t.2.2, .null, g4, g5, g6, g7, g8, g9, g10, g11, g12, g13, g14, g15, g16, g17, g18, g19, g20, g21, g22, g23, g24, g25, g26, g27, g28, g29]))]) s.heap := hP
  have hl := lv_entry ([.ref a0, .int k1, .int k2]) (n := 6) (Nat.le_of_ble_eq_true rfl)
  rw [lg_entry_eq]
  generalize (lg_sl ([.ref a0, .int k1, .int k2]) ++ List.replicate (6 - (lg_sl ([.ref a0, .int k1, .int k2])).length) Slot.unset).toArray = ls at hl ⊢
  have hl : lv_has ls 6 [(0, .ref a0), (1, .int k1), (2, .int k2)] := hl
  refine W_q (fun QQ hQQ => ?_)
  rw [f_X12_asker_nul] at h
  refine lv_aload_n hx hb (zat zrX12_asker_0_ok 0 rfl) rfl (lv_at hl 0 rfl) ?_
  refine lv_iconst (v := 0) hx hb (zat zrX12_asker_0_ok 1 rfl) (by decide) ?_
  refine va_put (D := (dC, dI)) (ci := 9) (v := .int 0) (ty := .int) (C := RX12) (T := TX12) (N := 30) hx hb hts ifX12_asker_nul_X12 tyX12 tyX12_ok nmX12 hown hK hP hD hS 0 rfl rfl 0 (by decide) (hts (.fieldLink RX12 36 "HookPierModel" "thrown" "I") (List.mem_of_getElem? (i := 1) rfl)) (fun _ h9 => h9) rfl (by decide +kernel) rfl rfl (Nat.le_of_ble_eq_true rfl) (zat zrX12_asker_0_ok 2 rfl) (fun H locs hP hD hS => ?_)
  obtain ⟨hP, hD⟩ := pd_mk ([(a0, .inr (9, [.int 0, .int m_t.2.1, .int m_t.2.2, .null, g4, g5, g6, g7, g8, g9, g10, g11, g12, g13, g14, g15, g16, g17, g18, g19, g20, g21, g22, g23, g24, g25, g26, g27, g28, g29]))]) hP hD
  refine lv_aload_n hx hb (zat zrX12_asker_0_ok 3 rfl) rfl (lv_at hl 0 rfl) ?_
  refine lv_iload_n hx hb (zat zrX12_asker_0_ok 4 rfl) rfl (lv_at hl 1 rfl) ?_
  refine ck_i (wc := ([(a0, .inr (9, [.int 0, .int m_t.2.1, .int m_t.2.2, .null, g4, g5, g6, g7, g8, g9, g10, g11, g12, g13, g14, g15, g16, g17, g18, g19, g20, g21, g22, g23, g24, g25, g26, g27, g28, g29]))])) (wr := []) hP hD hK hS hA [0] [] rfl rfl (by decide) (by decide) (by decide) (fun hPc hDc => (va_runV (As := [.int k1]) (rest := []) ⟨hx, hb, hml, hown, hts⟩ (kfX12_isAsker_nul l dC dI a0 k1 (.int 0) (.int m_t.2.1) (.int m_t.2.2) (g4) (g5) (g6) (g7) (g8) (g9) (g10) (g11) (g12) (g13) (g14) (g15) (g16) (g17) (g18) (g19) (g20) (g21) (g22) (g23) (g24) (g25) (g26) (g27) (g28) (g29) H.size () rfl) (cwV 1 hts gfX12_asker_nul_0 rfl rfl rfl (by decide +kernel) ⟨(Nat.le_of_ble_eq_true rfl), (Nat.le_of_ble_eq_true rfl)⟩) (PV hPc (hK.sub (tys' := ([])) [] rfl) hDc hN 0 rfl rfl) rfl rfl hl.1 rfl (lv_room (Nat.le_of_ble_eq_true rfl)) (zat zrX12_asker_0_ok 5 rfl) ⟨(Nat.le_of_ble_eq_true rfl), (Nat.le_of_ble_eq_true rfl)⟩)) (fun r7 _ H locs hw hP hD _ hS => ?_)
  obtain ⟨hw, br7⟩ := hw
  obtain rfl := hw
  obtain ⟨hP, hD⟩ := pd_mk ([(a0, .inr (9, [.int 0, .int m_t.2.1, .int m_t.2.2, .null, g4, g5, g6, g7, g8, g9, g10, g11, g12, g13, g14, g15, g16, g17, g18, g19, g20, g21, g22, g23, g24, g25, g26, g27, g28, g29]))]) hP hD
  refine lv_if_eq (tgt := 22) hx hb (zat zrX12_asker_0_ok 6 rfl) (by decide) (fun _ => ?_) (fun c10 => absurd c10 (by decide))
  refine lv_aload_n hx hb (zat zrX12_asker_0_ok 12 rfl) rfl (lv_at hl 0 rfl) ?_
  refine lv_iconst (v := 1) hx hb (zat zrX12_asker_0_ok 13 rfl) (by decide) ?_
  obtain ⟨o24, eo24⟩ : ∃ o, o = f_X12_refused_nul (1 : Int32) ((0 : Int32), m_t.2) := ⟨_, rfl⟩
  have h := nm_of h o24 eo24
  refine ck_i (wc := ([(a0, .inr (9, [.int 0, .int m_t.2.1, .int m_t.2.2, .null, g4, g5, g6, g7, g8, g9, g10, g11, g12, g13, g14, g15, g16, g17, g18, g19, g20, g21, g22, g23, g24, g25, g26, g27, g28, g29]))])) (wr := []) hP hD hK hS hA [0] [] rfl rfl (by decide) (by decide) (by decide) (fun hPc hDc => (va_runV (As := [.int 1]) (rest := []) ⟨hx, hb, hml, hown, hts⟩ (kfX12_refused_nul l dC dI a0 (1 : Int32) ((0 : Int32), m_t.2) (.null) (g4) (g5) (g6) (g7) (g8) (g9) (g10) (g11) (g12) (g13) (g14) (g15) (g16) (g17) (g18) (g19) (g20) (g21) (g22) (g23) (g24) (g25) (g26) (g27) (g28) (g29) H.size o24 eo24.symm) (cwV 1 hts gfX12_asker_nul_1 rfl rfl rfl (by decide +kernel) ⟨(Nat.le_of_ble_eq_true rfl), (Nat.le_of_ble_eq_true rfl)⟩) (PV hPc (hK.sub (tys' := ([])) [] rfl) hDc hN 0 rfl rfl) rfl rfl hl.1 rfl (lv_room (Nat.le_of_ble_eq_true rfl)) (zat zrX12_asker_0_ok 14 rfl) ⟨(Nat.le_of_ble_eq_true rfl), (Nat.le_of_ble_eq_true rfl)⟩)) (fun r24 _ H locs hw hP hD _ hS => ?_)
  obtain rfl := hw
  obtain ⟨hP, hD⟩ := pd_mk ([(a0, .inr (9, [.int o24.1, .int o24.2.1, .int o24.2.2, .null, g4, g5, g6, g7, g8, g9, g10, g11, g12, g13, g14, g15, g16, g17, g18, g19, g20, g21, g22, g23, g24, g25, g26, g27, g28, g29]))]) hP hD
  obtain rfl := h
  obtain ⟨hP9, hD9⟩ := pd_sub ([(a0, .inr (9, [.int o24.1, .int o24.2.1, .int o24.2.2, .null, g4, g5, g6, g7, g8, g9, g10, g11, g12, g13, g14, g15, g16, g17, g18, g19, g20, g21, g22, g23, g24, g25, g26, g27, g28, g29]))]) [0] hP hD (by decide) rfl
  have hK9 := hK.sub (tys' := []) [] rfl
  rw [hQQ]
  exact W.iret (v := (-1 : Int32)) hx hb hr (fun t ht hW => ⟨⟨(-1 : Int32), (), rfl, rfl, by rw [ht]; exact hP9, va_K.moved hW.alike hK9, hD9⟩, hS.F ht⟩) hS.2.2 (zat zrX12_asker_0_ok 15 rfl)
noncomputable def zrX12_close_0b : List ZR := zc 0 false (.nop) 12 (zc 12 true (.aload_n 0) 1 (zc 13 true (.iconst 1) 1 (zc 14 true (.invokevirtual 42) 3 (zc 17 true (.ireturn) 1 ([])))))
theorem zrX12_close_0b_ok : zck 0 ((zby cX12_close).drop 0) zrX12_close_0b = true := by decide +kernel
def vfX12_close_nul : List Cond := List.cons (.code yX12_close cX12_close 2 (some .int)) (apW [.fieldLink RX12 36 "HookPierModel" "thrown" "I", .fieldLink RX12 299 "HookPierModel" "pier" "LHookPierModel$Pier;", .methodLink RX12 42 yX12_refused, .instanceMethod yX12_refused, .selects RX12 yX12_refused yX12_refused, .initialized RX12] (apW wsX120 (vfX12_refused_nul)))
theorem ifX12_close_nul_X12 : ∀ w ∈ wsX120, w ∈ vfX12_close_nul := fun _ h => (List.mem_cons_of_mem _ (List.mem_append_right _ (List.mem_append_left _ h)))
theorem qfX12_close_nul : Good vfX12_close_nul := gd_cons (by decide +kernel) (gd_app (gd_dec (by decide +kernel) : Good [.fieldLink RX12 36 "HookPierModel" "thrown" "I", .fieldLink RX12 299 "HookPierModel" "pier" "LHookPierModel$Pier;", .methodLink RX12 42 yX12_refused, .instanceMethod yX12_refused, .selects RX12 yX12_refused yX12_refused, .initialized RX12]) (gd_app qsX12 qfX12_refused_nul))
theorem gfX12_close_nul_0 : GoodIn vfX12_close_nul (wsV RX12 42 RX12 yX12_refused vfX12_refused_nul) := goodIn_app (goodIn_r [.methodLink RX12 42 yX12_refused, .instanceMethod yX12_refused, .selects RX12 yX12_refused yX12_refused, .initialized RX12] [3, 4, 5, 6] rfl (by decide +kernel)) (goodIn_m (fun _ h => (List.mem_cons_of_mem _ (List.mem_append_right _ (List.mem_append_right _ h)))) qfX12_refused_nul)
set_option maxHeartbeats 2000000 in
set_option maxRecDepth 100000 in
theorem kfX12_close_nul (l : Launch) (dC : Nat → ClassId) (dI : Nat → Nat → Nat) (a0 : Nat) (k1 : Int32) (m_t : TX12_t) (g3 : Value) (g4 : Value) (g5 : Value) (g6 : Value) (g7 : Value) (g8 : Value) (g9 : Value) (g10 : Value) (g11 : Value) (g12 : Value) (g13 : Value) (g14 : Value) (g15 : Value) (g16 : Value) (g17 : Value) (g18 : Value) (g19 : Value) (g20 : Value) (g21 : Value) (g22 : Value) (g23 : Value) (g24 : Value) (g25 : Value) (g26 : Value) (g27 : Value) (g28 : Value) (sz : Nat) (out : TX12_t) (h : f_X12_close_nul k1 m_t = out) : KCi l yX12_close vfX12_close_nul ({ frames := 1, cells := 0, slots := 0, locals := 21 }) (dC, dI) [.ref a0, .int k1] sz ([(a0, .inr (9, [.int m_t.1, .int m_t.2.1, .int m_t.2.2, .null, g3, g4, g5, g6, g7, g8, g9, g10, g11, g12, g13, g14, g15, g16, g17, g18, g19, g20, g21, g22, g23, g24, g25, g26, g27, g28]))]) ([]) (fun (r : Int32) _ => r = (-1)) ([(a0, .inr (9, [.int out.1, .int out.2.1, .int out.2.2, .null, g3, g4, g5, g6, g7, g8, g9, g10, g11, g12, g13, g14, g15, g16, g17, g18, g19, g20, g21, g22, g23, g24, g25, g26, g27, g28]))]) 0 0 := by
  refine Met.ofW (cc := cX12_close) (maxL := 2) (ret := (some .int)) (by decide) rfl ?_
  intro p e s m args below meth c s₁ B0 hml hv
  obtain ⟨rfl, hsz, hP, hK, hD0, hN⟩ := hv
  have hx := B0.exec
  have hb := B0.bytes
  have hr := B0.returns
  have hts := atoms_spec (ws := vfX12_close_nul) B0.pre
  have hown : s.vm.findClass RX12 = some m.cls := findClass_of_methodNamed B0.named
  have hlocks := B0.notSynchronized
  subst hsz
  have hD := hD0.self (sz := s.heap.size)
  generalize hAe : va_A ([(a0, .inr (9, [.int m_t.1, .int m_t.2.1, .int m_t.2.2, .null, g3, g4, g5, g6, g7, g8, g9, g10, g11, g12, g13, g14, g15, g16, g17, g18, g19, g20, g21, g22, g23, g24, g25, g26, g27, g28]))]) s.heap.size = A at hD ⊢
  have hA : ∀ q : Nat, s.heap.size ≤ q → A q := fun q h => by rw [← hAe]; exact Or.inr h
  have hS : va_S A s.heap s.heap [] := va_S.rf
  have hP : va_P (dC, dI) vwCl ([(a0, .inr (9, [.int m_t.1, .int m_t.2.1, .int m_t.2.2, .null, g3, g4, g5, g6, g7, g8, g9, g10, g11, g12, g13, g14, g15, g16, g17, g18, g19, g20, g21, g22, g23, g24, g25, g26, g27, g28]))]) s.heap := hP
  have hl := lv_entry ([.ref a0, .int k1]) (n := 2) (Nat.le_of_ble_eq_true rfl)
  rw [lg_entry_eq]
  generalize (lg_sl ([.ref a0, .int k1]) ++ List.replicate (2 - (lg_sl ([.ref a0, .int k1])).length) Slot.unset).toArray = ls at hl ⊢
  have hl : lv_has ls 2 [(0, .ref a0), (1, .int k1)] := hl
  refine W_q (fun QQ hQQ => ?_)
  rw [f_X12_close_nul] at h
  refine lv_aload_n hx hb (zat zrX12_close_0_ok 0 rfl) rfl (lv_at hl 0 rfl) ?_
  refine lv_iconst (v := 0) hx hb (zat zrX12_close_0_ok 1 rfl) (by decide) ?_
  refine va_put (D := (dC, dI)) (ci := 9) (v := .int 0) (ty := .int) (C := RX12) (T := TX12) (N := 30) hx hb hts ifX12_close_nul_X12 tyX12 tyX12_ok nmX12 hown hK hP hD hS 0 rfl rfl 0 (by decide) (hts (.fieldLink RX12 36 "HookPierModel" "thrown" "I") (List.mem_of_getElem? (i := 1) rfl)) (fun _ h9 => h9) rfl (by decide +kernel) rfl rfl (Nat.le_of_ble_eq_true rfl) (zat zrX12_close_0_ok 2 rfl) (fun H locs hP hD hS => ?_)
  obtain ⟨hP, hD⟩ := pd_mk ([(a0, .inr (9, [.int 0, .int m_t.2.1, .int m_t.2.2, .null, g3, g4, g5, g6, g7, g8, g9, g10, g11, g12, g13, g14, g15, g16, g17, g18, g19, g20, g21, g22, g23, g24, g25, g26, g27, g28]))]) hP hD
  refine lv_aload_n hx hb (zat zrX12_close_0_ok 3 rfl) rfl (lv_at hl 0 rfl) ?_
  refine va_get (D := (dC, dI)) (ci := 9) (v := .null) (C := RX12) (T := TX12) (N := 30) hx hb hts ifX12_close_nul_X12 hown hK hP 0 rfl rfl 3 (by decide) (hts (.fieldLink RX12 299 "HookPierModel" "pier" "LHookPierModel$Pier;") (List.mem_of_getElem? (i := 2) rfl)) (fun _ h9 => h9) rfl (zat zrX12_close_0_ok 4 rfl) ?_
  refine lv_ifnonnullN hx hb (zat zrX12_close_0_ok 5 rfl) ?_
  refine lv_aload_n hx hb (zat zrX12_close_0b_ok 1 rfl) rfl (lv_at hl 0 rfl) ?_
  refine lv_iconst (v := 1) hx hb (zat zrX12_close_0b_ok 2 rfl) (by decide) ?_
  obtain ⟨o14, eo14⟩ : ∃ o, o = f_X12_refused_nul (1 : Int32) ((0 : Int32), m_t.2) := ⟨_, rfl⟩
  have h := nm_of h o14 eo14
  refine ck_i (wc := ([(a0, .inr (9, [.int 0, .int m_t.2.1, .int m_t.2.2, .null, g3, g4, g5, g6, g7, g8, g9, g10, g11, g12, g13, g14, g15, g16, g17, g18, g19, g20, g21, g22, g23, g24, g25, g26, g27, g28]))])) (wr := []) hP hD hK hS hA [0] [] rfl rfl (by decide) (by decide) (by decide) (fun hPc hDc => (va_runV (As := [.int 1]) (rest := []) ⟨hx, hb, hml, hown, hts⟩ (kfX12_refused_nul l dC dI a0 (1 : Int32) ((0 : Int32), m_t.2) (.null) (g3) (g4) (g5) (g6) (g7) (g8) (g9) (g10) (g11) (g12) (g13) (g14) (g15) (g16) (g17) (g18) (g19) (g20) (g21) (g22) (g23) (g24) (g25) (g26) (g27) (g28) H.size o14 eo14.symm) (cwV 1 hts gfX12_close_nul_0 rfl rfl rfl (by decide +kernel) ⟨(Nat.le_of_ble_eq_true rfl), (Nat.le_of_ble_eq_true rfl)⟩) (PV hPc (hK.sub (tys' := ([])) [] rfl) hDc hN 0 rfl rfl) rfl rfl hl.1 rfl (lv_room (Nat.le_of_ble_eq_true rfl)) (zat zrX12_close_0b_ok 3 rfl) ⟨(Nat.le_of_ble_eq_true rfl), (Nat.le_of_ble_eq_true rfl)⟩)) (fun r14 _ H locs hw hP hD _ hS => ?_)
  obtain rfl := hw
  obtain ⟨hP, hD⟩ := pd_mk ([(a0, .inr (9, [.int o14.1, .int o14.2.1, .int o14.2.2, .null, g3, g4, g5, g6, g7, g8, g9, g10, g11, g12, g13, g14, g15, g16, g17, g18, g19, g20, g21, g22, g23, g24, g25, g26, g27, g28]))]) hP hD
  obtain rfl := h
  obtain ⟨hP9, hD9⟩ := pd_sub ([(a0, .inr (9, [.int o14.1, .int o14.2.1, .int o14.2.2, .null, g3, g4, g5, g6, g7, g8, g9, g10, g11, g12, g13, g14, g15, g16, g17, g18, g19, g20, g21, g22, g23, g24, g25, g26, g27, g28]))]) [0] hP hD (by decide) rfl
  have hK9 := hK.sub (tys' := []) [] rfl
  rw [hQQ]
  exact W.iret (v := (-1 : Int32)) hx hb hr (fun t ht hW => ⟨⟨(-1 : Int32), (), rfl, rfl, by rw [ht]; exact hP9, va_K.moved hW.alike hK9, hD9⟩, hS.F ht⟩) hS.2.2 (zat zrX12_close_0b_ok 4 rfl)
def vfX12_refusesQuestion_nul_s0 : List Cond := .code yX12_refusesQuestion cX12_refusesQuestion 5 (some .int) :: ([])
theorem qfX12_refusesQuestion_nul_s0 : Good vfX12_refusesQuestion_nul_s0 := gd_cons (by decide +kernel) (gd_dec (by decide +kernel) : Good [])
set_option maxHeartbeats 2000000 in
set_option maxRecDepth 100000 in
theorem kfX12_refusesQuestion_nul_s0 (l : Launch) (dC : Nat → ClassId) (dI : Nat → Nat → Nat) (a0 : Nat) (k2 : Int32) (k3 : Int32) (k4 : Int32) (g4 : Value) (g5 : Value) (g6 : Value) (g7 : Value) (g8 : Value) (g9 : Value) (g10 : Value) (g11 : Value) (g12 : Value) (g13 : Value) (g14 : Value) (g15 : Value) (g16 : Value) (g17 : Value) (g18 : Value) (g19 : Value) (g20 : Value) (g21 : Value) (g22 : Value) (g23 : Value) (g24 : Value) (g25 : Value) (g26 : Value) (g27 : Value) (g28 : Value) (g29 : Value) (g30 : Value) (g31 : Value) (g32 : Value) (g33 : Value) (sz : Nat) (out : Unit) (h : f_X12_refusesQuestion_nul_s0 k2 k3 k4 = out) : KDi l yX12_refusesQuestion vfX12_refusesQuestion_nul_s0 ({ frames := 0, cells := 0, slots := 0, locals := 0 }) (dC, dI) [.ref a0, .int 0, .int k2, .int k3, .int k4] sz ([(a0, .inr (9, [g4, g5, g6, g7, g8, g9, g10, g11, g12, g13, g14, g15, g16, g17, g18, g19, g20, g21, g22, g23, g24, g25, g26, g27, g28, g29, g30, g31, g32, g33]))]) ([]) (fun (r : Int32) _ => r = 1) 0 0 := by
  refine Met.ofW (cc := cX12_refusesQuestion) (maxL := 5) (ret := (some .int)) (by decide) rfl ?_
  intro p e s m args below meth c s₁ B0 hml hv
  obtain ⟨rfl, hsz, hP, hK, hD0, hN⟩ := hv
  have hx := B0.exec
  have hb := B0.bytes
  have hr := B0.returns
  have hts := atoms_spec (ws := vfX12_refusesQuestion_nul_s0) B0.pre
  have hown : s.vm.findClass RX12 = some m.cls := findClass_of_methodNamed B0.named
  have hlocks := B0.notSynchronized
  subst hsz
  have hD := hD0.self (sz := s.heap.size)
  generalize hAe : va_A ([(a0, .inr (9, [g4, g5, g6, g7, g8, g9, g10, g11, g12, g13, g14, g15, g16, g17, g18, g19, g20, g21, g22, g23, g24, g25, g26, g27, g28, g29, g30, g31, g32, g33]))]) s.heap.size = A at hD ⊢
  have hA : ∀ q : Nat, s.heap.size ≤ q → A q := fun q h => by rw [← hAe]; exact Or.inr h
  have hS : va_S A s.heap s.heap [] := va_S.rf
  have hP : va_P (dC, dI) vwCl ([(a0, .inr (9, [g4, g5, g6, g7, g8, g9, g10, g11, g12, g13, g14, g15, g16, g17, g18, g19, g20, g21, g22, g23, g24, g25, g26, g27, g28, g29, g30, g31, g32, g33]))]) s.heap := hP
  have hl := lv_entry ([.ref a0, .int 0, .int k2, .int k3, .int k4]) (n := 5) (Nat.le_of_ble_eq_true rfl)
  rw [lg_entry_eq]
  generalize (lg_sl ([.ref a0, .int 0, .int k2, .int k3, .int k4]) ++ List.replicate (5 - (lg_sl ([.ref a0, .int 0, .int k2, .int k3, .int k4])).length) Slot.unset).toArray = ls at hl ⊢
  have hl : lv_has ls 5 [(0, .ref a0), (1, .int 0), (2, .int k2), (3, .int k3), (4, .int k4)] := hl
  refine W_q (fun QQ hQQ => ?_)
  rw [f_X12_refusesQuestion_nul_s0] at h
  refine lv_iload_n hx hb (zat zrX12_refusesQuestion_0_ok 0 rfl) rfl (lv_at hl 1 rfl) ?_
  refine lv_if_eq (tgt := 39) hx hb (zat zrX12_refusesQuestion_0_ok 1 rfl) (by decide) (fun _ => ?_) (fun c1 => absurd c1 (by decide))
  refine lv_iconst (v := 1) hx hb (zat zrX12_refusesQuestion_0_ok 20 rfl) (by decide) ?_
  obtain ⟨hP9, hD9⟩ := pd_sub ([(a0, .inr (9, [g4, g5, g6, g7, g8, g9, g10, g11, g12, g13, g14, g15, g16, g17, g18, g19, g20, g21, g22, g23, g24, g25, g26, g27, g28, g29, g30, g31, g32, g33]))]) [0] hP hD (by decide) rfl
  have hK9 := hK.sub (tys' := []) [] rfl
  rw [hQQ]
  exact W.iret (v := (1 : Int32)) hx hb hr (fun t ht hW => ⟨⟨(1 : Int32), (), rfl, rfl, by rw [ht]; exact hP9, va_K.moved hW.alike hK9, hD9⟩, hS.F ht⟩) hS.2.2 (zat zrX12_refusesQuestion_0_ok 21 rfl)
def vfX12_wish_nul : List Cond := List.cons (.code yX12_wish cX12_wish 6 (some .int)) (apW [.fieldLink RX12 36 "HookPierModel" "thrown" "I", .methodLink RX12 320 yX12_isAnswer, .instanceMethod yX12_isAnswer, .selects RX12 yX12_isAnswer yX12_isAnswer, .initialized RX12, .methodLink RX12 353 yX12_refusesQuestion, .instanceMethod yX12_refusesQuestion, .selects RX12 yX12_refusesQuestion yX12_refusesQuestion, .methodLink RX12 42 yX12_refused, .instanceMethod yX12_refused, .selects RX12 yX12_refused yX12_refused] (apW wsX120 (apW vfX12_isAnswer_nul (apW vfX12_refusesQuestion_nul_s0 (vfX12_refused_nul)))))
theorem ifX12_wish_nul_X12 : ∀ w ∈ wsX120, w ∈ vfX12_wish_nul := fun _ h => (List.mem_cons_of_mem _ (List.mem_append_right _ (List.mem_append_left _ h)))
theorem qfX12_wish_nul : Good vfX12_wish_nul := gd_cons (by decide +kernel) (gd_app (gd_dec (by decide +kernel) : Good [.fieldLink RX12 36 "HookPierModel" "thrown" "I", .methodLink RX12 320 yX12_isAnswer, .instanceMethod yX12_isAnswer, .selects RX12 yX12_isAnswer yX12_isAnswer, .initialized RX12, .methodLink RX12 353 yX12_refusesQuestion, .instanceMethod yX12_refusesQuestion, .selects RX12 yX12_refusesQuestion yX12_refusesQuestion, .methodLink RX12 42 yX12_refused, .instanceMethod yX12_refused, .selects RX12 yX12_refused yX12_refused]) (gd_app qsX12 (gd_app qfX12_isAnswer_nul (gd_app qfX12_refusesQuestion_nul_s0 qfX12_refused_nul))))
theorem gfX12_wish_nul_0 : GoodIn vfX12_wish_nul (wsV RX12 320 RX12 yX12_isAnswer vfX12_isAnswer_nul) := goodIn_app (goodIn_r [.methodLink RX12 320 yX12_isAnswer, .instanceMethod yX12_isAnswer, .selects RX12 yX12_isAnswer yX12_isAnswer, .initialized RX12] [2, 3, 4, 5] rfl (by decide +kernel)) (goodIn_m (fun _ h => (List.mem_cons_of_mem _ (List.mem_append_right _ (List.mem_append_right _ (List.mem_append_left _ h))))) qfX12_isAnswer_nul)
theorem gfX12_wish_nul_1 : GoodIn vfX12_wish_nul (wsV RX12 353 RX12 yX12_refusesQuestion vfX12_refusesQuestion_nul_s0) := goodIn_app (goodIn_r [.methodLink RX12 353 yX12_refusesQuestion, .instanceMethod yX12_refusesQuestion, .selects RX12 yX12_refusesQuestion yX12_refusesQuestion, .initialized RX12] [6, 7, 8, 5] rfl (by decide +kernel)) (goodIn_m (fun _ h => (List.mem_cons_of_mem _ (List.mem_append_right _ (List.mem_append_right _ (List.mem_append_right _ (List.mem_append_left _ h)))))) qfX12_refusesQuestion_nul_s0)
theorem gfX12_wish_nul_2 : GoodIn vfX12_wish_nul (wsV RX12 42 RX12 yX12_refused vfX12_refused_nul) := goodIn_app (goodIn_r [.methodLink RX12 42 yX12_refused, .instanceMethod yX12_refused, .selects RX12 yX12_refused yX12_refused, .initialized RX12] [9, 10, 11, 5] rfl (by decide +kernel)) (goodIn_m (fun _ h => (List.mem_cons_of_mem _ (List.mem_append_right _ (List.mem_append_right _ (List.mem_append_right _ (List.mem_append_right _ h)))))) qfX12_refused_nul)
set_option maxHeartbeats 2000000 in
set_option maxRecDepth 100000 in
theorem kfX12_wish_nul (l : Launch) (dC : Nat → ClassId) (dI : Nat → Nat → Nat) (a0 : Nat) (k1 : Int32) (k2 : Int32) (k3 : Int32) (k4 : Int32) (m_t : TX12_t) (g6 : Value) (g7 : Value) (g8 : Value) (g9 : Value) (g10 : Value) (g11 : Value) (g12 : Value) (g13 : Value) (g14 : Value) (g15 : Value) (g16 : Value) (g17 : Value) (g18 : Value) (g19 : Value) (g20 : Value) (g21 : Value) (g22 : Value) (g23 : Value) (g24 : Value) (g25 : Value) (g26 : Value) (g27 : Value) (g28 : Value) (g29 : Value) (g30 : Value) (g31 : Value) (sz : Nat) (out : TX12_t) (h : f_X12_wish_nul k1 k2 k3 k4 m_t = out) : KCi l yX12_wish vfX12_wish_nul ({ frames := 1, cells := 0, slots := 0, locals := 24 }) (dC, dI) [.ref a0, .int k1, .int k2, .int k3, .int k4] sz ([(a0, .inr (9, [.int m_t.1, .int m_t.2.1, .int m_t.2.2, .null, g6, g7, g8, g9, g10, g11, g12, g13, g14, g15, g16, g17, g18, g19, g20, g21, g22, g23, g24, g25, g26, g27, g28, g29, g30, g31]))]) ([]) (fun (r : Int32) _ => r = (-1)) ([(a0, .inr (9, [.int out.1, .int out.2.1, .int out.2.2, .null, g6, g7, g8, g9, g10, g11, g12, g13, g14, g15, g16, g17, g18, g19, g20, g21, g22, g23, g24, g25, g26, g27, g28, g29, g30, g31]))]) 0 0 := by
  refine Met.ofW (cc := cX12_wish) (maxL := 6) (ret := (some .int)) (by decide) rfl ?_
  intro p e s m args below meth c s₁ B0 hml hv
  obtain ⟨rfl, hsz, hP, hK, hD0, hN⟩ := hv
  have hx := B0.exec
  have hb := B0.bytes
  have hr := B0.returns
  have hts := atoms_spec (ws := vfX12_wish_nul) B0.pre
  have hown : s.vm.findClass RX12 = some m.cls := findClass_of_methodNamed B0.named
  have hlocks := B0.notSynchronized
  subst hsz
  have hD := hD0.self (sz := s.heap.size)
  generalize hAe : va_A ([(a0, .inr (9, [.int m_t.1, .int m_t.2.1, .int m_t.2.2, .null, g6, g7, g8, g9, g10, g11, g12, g13, g14, g15, g16, g17, g18, g19, g20, g21, g22, g23, g24, g25, g26, g27, g28, g29, g30, g31]))]) s.heap.size = A at hD ⊢
  have hA : ∀ q : Nat, s.heap.size ≤ q → A q := fun q h => by rw [← hAe]; exact Or.inr h
  have hS : va_S A s.heap s.heap [] := va_S.rf
  have hP : va_P (dC, dI) vwCl ([(a0, .inr (9, [.int m_t.1, .int m_t.2.1, .int m_t.2.2, .null, g6, g7, g8, g9, g10, g11, g12, g13, g14, g15, g16, g17, g18, g19, g20, g21, g22, g23, g24, g25, g26, g27, g28, g29, g30, g31]))]) s.heap := hP
  have hl := lv_entry ([.ref a0, .int k1, .int k2, .int k3, .int k4]) (n := 6) (Nat.le_of_ble_eq_true rfl)
  rw [lg_entry_eq]
  generalize (lg_sl ([.ref a0, .int k1, .int k2, .int k3, .int k4]) ++ List.replicate (6 - (lg_sl ([.ref a0, .int k1, .int k2, .int k3, .int k4])).length) Slot.unset).toArray = ls at hl ⊢
  have hl : lv_has ls 6 [(0, .ref a0), (1, .int k1), (2, .int k2), (3, .int k3), (4, .int k4)] := hl
  refine W_q (fun QQ hQQ => ?_)
  rw [f_X12_wish_nul] at h
  refine lv_aload_n hx hb (zat zrX12_wish_0_ok 0 rfl) rfl (lv_at hl 0 rfl) ?_
  refine lv_iconst (v := 0) hx hb (zat zrX12_wish_0_ok 1 rfl) (by decide) ?_
  refine va_put (D := (dC, dI)) (ci := 9) (v := .int 0) (ty := .int) (C := RX12) (T := TX12) (N := 30) hx hb hts ifX12_wish_nul_X12 tyX12 tyX12_ok nmX12 hown hK hP hD hS 0 rfl rfl 0 (by decide) (hts (.fieldLink RX12 36 "HookPierModel" "thrown" "I") (List.mem_of_getElem? (i := 1) rfl)) (fun _ h9 => h9) rfl (by decide +kernel) rfl rfl (Nat.le_of_ble_eq_true rfl) (zat zrX12_wish_0_ok 2 rfl) (fun H locs hP hD hS => ?_)
  obtain ⟨hP, hD⟩ := pd_mk ([(a0, .inr (9, [.int 0, .int m_t.2.1, .int m_t.2.2, .null, g6, g7, g8, g9, g10, g11, g12, g13, g14, g15, g16, g17, g18, g19, g20, g21, g22, g23, g24, g25, g26, g27, g28, g29, g30, g31]))]) hP hD
  refine lv_aload_n hx hb (zat zrX12_wish_0_ok 3 rfl) rfl (lv_at hl 0 rfl) ?_
  refine lv_aload_n hx hb (zat zrX12_wish_0_ok 4 rfl) rfl (lv_at hl 0 rfl) ?_
  refine lv_iload_n hx hb (zat zrX12_wish_0_ok 5 rfl) rfl (lv_at hl 1 rfl) ?_
  refine ck_i (wc := ([(a0, .inr (9, [.int 0, .int m_t.2.1, .int m_t.2.2, .null, g6, g7, g8, g9, g10, g11, g12, g13, g14, g15, g16, g17, g18, g19, g20, g21, g22, g23, g24, g25, g26, g27, g28, g29, g30, g31]))])) (wr := []) hP hD hK hS hA [0] [] rfl rfl (by decide) (by decide) (by decide) (fun hPc hDc => (va_runV (As := [.int k1]) (rest := [.ref a0]) ⟨hx, hb, hml, hown, hts⟩ (kfX12_isAnswer_nul l dC dI a0 k1 (.int 0) (.int m_t.2.1) (.int m_t.2.2) (g6) (g7) (g8) (g9) (g10) (g11) (g12) (g13) (g14) (g15) (g16) (g17) (g18) (g19) (g20) (g21) (g22) (g23) (g24) (g25) (g26) (g27) (g28) (g29) (g30) (g31) H.size () rfl) (cwV 1 hts gfX12_wish_nul_0 rfl rfl rfl (by decide +kernel) ⟨(Nat.le_of_ble_eq_true rfl), (Nat.le_of_ble_eq_true rfl)⟩) (PV hPc (hK.sub (tys' := ([])) [] rfl) hDc hN 0 rfl rfl) rfl rfl hl.1 rfl (lv_room (Nat.le_of_ble_eq_true rfl)) (zat zrX12_wish_0_ok 6 rfl) ⟨(Nat.le_of_ble_eq_true rfl), (Nat.le_of_ble_eq_true rfl)⟩)) (fun r8 _ H locs hw hP hD _ hS => ?_)
  obtain ⟨hw, br8⟩ := hw
  obtain rfl := hw
  obtain ⟨hP, hD⟩ := pd_mk ([(a0, .inr (9, [.int 0, .int m_t.2.1, .int m_t.2.2, .null, g6, g7, g8, g9, g10, g11, g12, g13, g14, g15, g16, g17, g18, g19, g20, g21, g22, g23, g24, g25, g26, g27, g28, g29, g30, g31]))]) hP hD
  refine lv_iload_n hx hb (zat zrX12_wish_0_ok 7 rfl) rfl (lv_at hl 2 rfl) ?_
  refine lv_iload_n hx hb (zat zrX12_wish_0_ok 8 rfl) rfl (lv_at hl 3 rfl) ?_
  refine lv_iload hx hb (zat zrX12_wish_0_ok 9 rfl) (lv_at hl 4 rfl) ?_
  refine ck_i (wc := ([(a0, .inr (9, [.int 0, .int m_t.2.1, .int m_t.2.2, .null, g6, g7, g8, g9, g10, g11, g12, g13, g14, g15, g16, g17, g18, g19, g20, g21, g22, g23, g24, g25, g26, g27, g28, g29, g30, g31]))])) (wr := []) hP hD hK hS hA [0] [] rfl rfl (by decide) (by decide) (by decide) (fun hPc hDc => (va_runV (As := [.int 0, .int k2, .int k3, .int k4]) (rest := []) ⟨hx, hb, hml, hown, hts⟩ (kfX12_refusesQuestion_nul_s0 l dC dI a0 k2 k3 k4 (.int 0) (.int m_t.2.1) (.int m_t.2.2) (.null) (g6) (g7) (g8) (g9) (g10) (g11) (g12) (g13) (g14) (g15) (g16) (g17) (g18) (g19) (g20) (g21) (g22) (g23) (g24) (g25) (g26) (g27) (g28) (g29) (g30) (g31) H.size () rfl) (cwV 4 hts gfX12_wish_nul_1 rfl rfl rfl (by decide +kernel) ⟨(Nat.le_of_ble_eq_true rfl), (Nat.le_of_ble_eq_true rfl)⟩) (PV hPc (hK.sub (tys' := ([])) [] rfl) hDc hN 0 rfl rfl) rfl rfl hl.1 rfl (lv_room (Nat.le_of_ble_eq_true rfl)) (zat zrX12_wish_0_ok 10 rfl) ⟨(Nat.le_of_ble_eq_true rfl), (Nat.le_of_ble_eq_true rfl)⟩)) (fun r15 _ H locs hw hP hD _ hS => ?_)
  obtain rfl := hw
  obtain ⟨hP, hD⟩ := pd_mk ([(a0, .inr (9, [.int 0, .int m_t.2.1, .int m_t.2.2, .null, g6, g7, g8, g9, g10, g11, g12, g13, g14, g15, g16, g17, g18, g19, g20, g21, g22, g23, g24, g25, g26, g27, g28, g29, g30, g31]))]) hP hD
  refine lv_istore (lv' := [(5, .int 1), (0, .ref a0), (1, .int k1), (2, .int k2), (3, .int k3), (4, .int k4)]) hx hb (zat zrX12_wish_0_ok 11 rfl) hl (by decide) rfl (fun ls hl => ?_)
  refine lv_iload hx hb (zat zrX12_wish_0_ok 12 rfl) (lv_at hl 0 rfl) ?_
  refine lv_if_le (tgt := 34) hx hb (zat zrX12_wish_0_ok 13 rfl) (by decide) (fun c22 => absurd c22 (by decide)) (fun _ => ?_)
  refine lv_aload_n hx hb (zat zrX12_wish_0_ok 14 rfl) rfl (lv_at hl 1 rfl) ?_
  refine lv_iload hx hb (zat zrX12_wish_0_ok 15 rfl) (lv_at hl 0 rfl) ?_
  obtain ⟨o28, eo28⟩ : ∃ o, o = f_X12_refused_nul (1 : Int32) ((0 : Int32), m_t.2) := ⟨_, rfl⟩
  have h := nm_of h o28 eo28
  refine ck_i (wc := ([(a0, .inr (9, [.int 0, .int m_t.2.1, .int m_t.2.2, .null, g6, g7, g8, g9, g10, g11, g12, g13, g14, g15, g16, g17, g18, g19, g20, g21, g22, g23, g24, g25, g26, g27, g28, g29, g30, g31]))])) (wr := []) hP hD hK hS hA [0] [] rfl rfl (by decide) (by decide) (by decide) (fun hPc hDc => (va_runV (As := [.int 1]) (rest := []) ⟨hx, hb, hml, hown, hts⟩ (kfX12_refused_nul l dC dI a0 (1 : Int32) ((0 : Int32), m_t.2) (.null) (g6) (g7) (g8) (g9) (g10) (g11) (g12) (g13) (g14) (g15) (g16) (g17) (g18) (g19) (g20) (g21) (g22) (g23) (g24) (g25) (g26) (g27) (g28) (g29) (g30) (g31) H.size o28 eo28.symm) (cwV 1 hts gfX12_wish_nul_2 rfl rfl rfl (by decide +kernel) ⟨(Nat.le_of_ble_eq_true rfl), (Nat.le_of_ble_eq_true rfl)⟩) (PV hPc (hK.sub (tys' := ([])) [] rfl) hDc hN 0 rfl rfl) rfl rfl hl.1 rfl (lv_room (Nat.le_of_ble_eq_true rfl)) (zat zrX12_wish_0_ok 16 rfl) ⟨(Nat.le_of_ble_eq_true rfl), (Nat.le_of_ble_eq_true rfl)⟩)) (fun r28 _ H locs hw hP hD _ hS => ?_)
  obtain rfl := hw
  obtain ⟨hP, hD⟩ := pd_mk ([(a0, .inr (9, [.int o28.1, .int o28.2.1, .int o28.2.2, .null, g6, g7, g8, g9, g10, g11, g12, g13, g14, g15, g16, g17, g18, g19, g20, g21, g22, g23, g24, g25, g26, g27, g28, g29, g30, g31]))]) hP hD
  refine lv_goto (tgt := 50) hx hb (zat zrX12_wish_0_ok 17 rfl) (by decide) ?_
  obtain rfl := h
  obtain ⟨hP9, hD9⟩ := pd_sub ([(a0, .inr (9, [.int o28.1, .int o28.2.1, .int o28.2.2, .null, g6, g7, g8, g9, g10, g11, g12, g13, g14, g15, g16, g17, g18, g19, g20, g21, g22, g23, g24, g25, g26, g27, g28, g29, g30, g31]))]) [0] hP hD (by decide) rfl
  have hK9 := hK.sub (tys' := []) [] rfl
  rw [hQQ]
  exact W.iret (v := (-1 : Int32)) hx hb hr (fun t ht hW => ⟨⟨(-1 : Int32), (), rfl, rfl, by rw [ht]; exact hP9, va_K.moved hW.alike hK9, hD9⟩, hS.F ht⟩) hS.2.2 (zat zrX12_wish_0_ok 27 rfl)
def vfX12_takes_nul : List Cond := List.cons (.code yX12_takes cX12_takes 7 (some .long)) (apW [.fieldLink RX12 36 "HookPierModel" "thrown" "I", .methodLink RX12 320 yX12_isAnswer, .instanceMethod yX12_isAnswer, .selects RX12 yX12_isAnswer yX12_isAnswer, .initialized RX12, .methodLink RX12 353 yX12_refusesQuestion, .instanceMethod yX12_refusesQuestion, .selects RX12 yX12_refusesQuestion yX12_refusesQuestion, .methodLink RX12 42 yX12_refused, .instanceMethod yX12_refused, .selects RX12 yX12_refused yX12_refused] (apW wsX120 (apW vfX12_isAnswer_nul (apW vfX12_refusesQuestion_nul_s0 (vfX12_refused_nul)))))
theorem ifX12_takes_nul_X12 : ∀ w ∈ wsX120, w ∈ vfX12_takes_nul := fun _ h => (List.mem_cons_of_mem _ (List.mem_append_right _ (List.mem_append_left _ h)))
theorem qfX12_takes_nul : Good vfX12_takes_nul := gd_cons (by decide +kernel) (gd_app (gd_dec (by decide +kernel) : Good [.fieldLink RX12 36 "HookPierModel" "thrown" "I", .methodLink RX12 320 yX12_isAnswer, .instanceMethod yX12_isAnswer, .selects RX12 yX12_isAnswer yX12_isAnswer, .initialized RX12, .methodLink RX12 353 yX12_refusesQuestion, .instanceMethod yX12_refusesQuestion, .selects RX12 yX12_refusesQuestion yX12_refusesQuestion, .methodLink RX12 42 yX12_refused, .instanceMethod yX12_refused, .selects RX12 yX12_refused yX12_refused]) (gd_app qsX12 (gd_app qfX12_isAnswer_nul (gd_app qfX12_refusesQuestion_nul_s0 qfX12_refused_nul))))
theorem gfX12_takes_nul_0 : GoodIn vfX12_takes_nul (wsV RX12 320 RX12 yX12_isAnswer vfX12_isAnswer_nul) := goodIn_app (goodIn_r [.methodLink RX12 320 yX12_isAnswer, .instanceMethod yX12_isAnswer, .selects RX12 yX12_isAnswer yX12_isAnswer, .initialized RX12] [2, 3, 4, 5] rfl (by decide +kernel)) (goodIn_m (fun _ h => (List.mem_cons_of_mem _ (List.mem_append_right _ (List.mem_append_right _ (List.mem_append_left _ h))))) qfX12_isAnswer_nul)
theorem gfX12_takes_nul_1 : GoodIn vfX12_takes_nul (wsV RX12 353 RX12 yX12_refusesQuestion vfX12_refusesQuestion_nul_s0) := goodIn_app (goodIn_r [.methodLink RX12 353 yX12_refusesQuestion, .instanceMethod yX12_refusesQuestion, .selects RX12 yX12_refusesQuestion yX12_refusesQuestion, .initialized RX12] [6, 7, 8, 5] rfl (by decide +kernel)) (goodIn_m (fun _ h => (List.mem_cons_of_mem _ (List.mem_append_right _ (List.mem_append_right _ (List.mem_append_right _ (List.mem_append_left _ h)))))) qfX12_refusesQuestion_nul_s0)
theorem gfX12_takes_nul_2 : GoodIn vfX12_takes_nul (wsV RX12 42 RX12 yX12_refused vfX12_refused_nul) := goodIn_app (goodIn_r [.methodLink RX12 42 yX12_refused, .instanceMethod yX12_refused, .selects RX12 yX12_refused yX12_refused, .initialized RX12] [9, 10, 11, 5] rfl (by decide +kernel)) (goodIn_m (fun _ h => (List.mem_cons_of_mem _ (List.mem_append_right _ (List.mem_append_right _ (List.mem_append_right _ (List.mem_append_right _ h)))))) qfX12_refused_nul)
set_option maxHeartbeats 2000000 in
set_option maxRecDepth 100000 in
theorem kfX12_takes_nul (l : Launch) (dC : Nat → ClassId) (dI : Nat → Nat → Nat) (a0 : Nat) (k1 : Int32) (k2 : Int32) (k3 : Int32) (k4 : Int32) (k5 : Int32) (m_t : TX12_t) (g7 : Value) (g8 : Value) (g9 : Value) (g10 : Value) (g11 : Value) (g12 : Value) (g13 : Value) (g14 : Value) (g15 : Value) (g16 : Value) (g17 : Value) (g18 : Value) (g19 : Value) (g20 : Value) (g21 : Value) (g22 : Value) (g23 : Value) (g24 : Value) (g25 : Value) (g26 : Value) (g27 : Value) (g28 : Value) (g29 : Value) (g30 : Value) (g31 : Value) (g32 : Value) (sz : Nat) (out : TX12_t) (h : f_X12_takes_nul k1 k2 k3 k4 k5 m_t = out) : KCl l yX12_takes vfX12_takes_nul ({ frames := 1, cells := 0, slots := 0, locals := 24 }) (dC, dI) [.ref a0, .int k1, .int k2, .int k3, .int k4, .int k5] sz ([(a0, .inr (9, [.int m_t.1, .int m_t.2.1, .int m_t.2.2, .null, g7, g8, g9, g10, g11, g12, g13, g14, g15, g16, g17, g18, g19, g20, g21, g22, g23, g24, g25, g26, g27, g28, g29, g30, g31, g32]))]) ([]) (fun (r : Int64) _ => r = (-1)) ([(a0, .inr (9, [.int out.1, .int out.2.1, .int out.2.2, .null, g7, g8, g9, g10, g11, g12, g13, g14, g15, g16, g17, g18, g19, g20, g21, g22, g23, g24, g25, g26, g27, g28, g29, g30, g31, g32]))]) 0 0 := by
  refine Met.ofW (cc := cX12_takes) (maxL := 7) (ret := (some .long)) (by decide) rfl ?_
  intro p e s m args below meth c s₁ B0 hml hv
  obtain ⟨rfl, hsz, hP, hK, hD0, hN⟩ := hv
  have hx := B0.exec
  have hb := B0.bytes
  have hr := B0.returns
  have hts := atoms_spec (ws := vfX12_takes_nul) B0.pre
  have hown : s.vm.findClass RX12 = some m.cls := findClass_of_methodNamed B0.named
  have hlocks := B0.notSynchronized
  subst hsz
  have hD := hD0.self (sz := s.heap.size)
  generalize hAe : va_A ([(a0, .inr (9, [.int m_t.1, .int m_t.2.1, .int m_t.2.2, .null, g7, g8, g9, g10, g11, g12, g13, g14, g15, g16, g17, g18, g19, g20, g21, g22, g23, g24, g25, g26, g27, g28, g29, g30, g31, g32]))]) s.heap.size = A at hD ⊢
  have hA : ∀ q : Nat, s.heap.size ≤ q → A q := fun q h => by rw [← hAe]; exact Or.inr h
  have hS : va_S A s.heap s.heap [] := va_S.rf
  have hP : va_P (dC, dI) vwCl ([(a0, .inr (9, [.int m_t.1, .int m_t.2.1, .int m_t.2.2, .null, g7, g8, g9, g10, g11, g12, g13, g14, g15, g16, g17, g18, g19, g20, g21, g22, g23, g24, g25, g26, g27, g28, g29, g30, g31, g32]))]) s.heap := hP
  have hl := lv_entry ([.ref a0, .int k1, .int k2, .int k3, .int k4, .int k5]) (n := 7) (Nat.le_of_ble_eq_true rfl)
  rw [lg_entry_eq]
  generalize (lg_sl ([.ref a0, .int k1, .int k2, .int k3, .int k4, .int k5]) ++ List.replicate (7 - (lg_sl ([.ref a0, .int k1, .int k2, .int k3, .int k4, .int k5])).length) Slot.unset).toArray = ls at hl ⊢
  have hl : lv_has ls 7 [(0, .ref a0), (1, .int k1), (2, .int k2), (3, .int k3), (4, .int k4), (5, .int k5)] := hl
  refine W_q (fun QQ hQQ => ?_)
  rw [f_X12_takes_nul] at h
  refine lv_aload_n hx hb (zat zrX12_takes_0_ok 0 rfl) rfl (lv_at hl 0 rfl) ?_
  refine lv_iconst (v := 0) hx hb (zat zrX12_takes_0_ok 1 rfl) (by decide) ?_
  refine va_put (D := (dC, dI)) (ci := 9) (v := .int 0) (ty := .int) (C := RX12) (T := TX12) (N := 30) hx hb hts ifX12_takes_nul_X12 tyX12 tyX12_ok nmX12 hown hK hP hD hS 0 rfl rfl 0 (by decide) (hts (.fieldLink RX12 36 "HookPierModel" "thrown" "I") (List.mem_of_getElem? (i := 1) rfl)) (fun _ h9 => h9) rfl (by decide +kernel) rfl rfl (Nat.le_of_ble_eq_true rfl) (zat zrX12_takes_0_ok 2 rfl) (fun H locs hP hD hS => ?_)
  obtain ⟨hP, hD⟩ := pd_mk ([(a0, .inr (9, [.int 0, .int m_t.2.1, .int m_t.2.2, .null, g7, g8, g9, g10, g11, g12, g13, g14, g15, g16, g17, g18, g19, g20, g21, g22, g23, g24, g25, g26, g27, g28, g29, g30, g31, g32]))]) hP hD
  refine lv_aload_n hx hb (zat zrX12_takes_0_ok 3 rfl) rfl (lv_at hl 0 rfl) ?_
  refine lv_aload_n hx hb (zat zrX12_takes_0_ok 4 rfl) rfl (lv_at hl 0 rfl) ?_
  refine lv_iload_n hx hb (zat zrX12_takes_0_ok 5 rfl) rfl (lv_at hl 1 rfl) ?_
  refine ck_i (wc := ([(a0, .inr (9, [.int 0, .int m_t.2.1, .int m_t.2.2, .null, g7, g8, g9, g10, g11, g12, g13, g14, g15, g16, g17, g18, g19, g20, g21, g22, g23, g24, g25, g26, g27, g28, g29, g30, g31, g32]))])) (wr := []) hP hD hK hS hA [0] [] rfl rfl (by decide) (by decide) (by decide) (fun hPc hDc => (va_runV (As := [.int k1]) (rest := [.ref a0]) ⟨hx, hb, hml, hown, hts⟩ (kfX12_isAnswer_nul l dC dI a0 k1 (.int 0) (.int m_t.2.1) (.int m_t.2.2) (g7) (g8) (g9) (g10) (g11) (g12) (g13) (g14) (g15) (g16) (g17) (g18) (g19) (g20) (g21) (g22) (g23) (g24) (g25) (g26) (g27) (g28) (g29) (g30) (g31) (g32) H.size () rfl) (cwV 1 hts gfX12_takes_nul_0 rfl rfl rfl (by decide +kernel) ⟨(Nat.le_of_ble_eq_true rfl), (Nat.le_of_ble_eq_true rfl)⟩) (PV hPc (hK.sub (tys' := ([])) [] rfl) hDc hN 0 rfl rfl) rfl rfl hl.1 rfl (lv_room (Nat.le_of_ble_eq_true rfl)) (zat zrX12_takes_0_ok 6 rfl) ⟨(Nat.le_of_ble_eq_true rfl), (Nat.le_of_ble_eq_true rfl)⟩)) (fun r8 _ H locs hw hP hD _ hS => ?_)
  obtain ⟨hw, br8⟩ := hw
  obtain rfl := hw
  obtain ⟨hP, hD⟩ := pd_mk ([(a0, .inr (9, [.int 0, .int m_t.2.1, .int m_t.2.2, .null, g7, g8, g9, g10, g11, g12, g13, g14, g15, g16, g17, g18, g19, g20, g21, g22, g23, g24, g25, g26, g27, g28, g29, g30, g31, g32]))]) hP hD
  refine lv_iload_n hx hb (zat zrX12_takes_0_ok 7 rfl) rfl (lv_at hl 2 rfl) ?_
  refine lv_iload_n hx hb (zat zrX12_takes_0_ok 8 rfl) rfl (lv_at hl 3 rfl) ?_
  refine lv_iload hx hb (zat zrX12_takes_0_ok 9 rfl) (lv_at hl 4 rfl) ?_
  refine ck_i (wc := ([(a0, .inr (9, [.int 0, .int m_t.2.1, .int m_t.2.2, .null, g7, g8, g9, g10, g11, g12, g13, g14, g15, g16, g17, g18, g19, g20, g21, g22, g23, g24, g25, g26, g27, g28, g29, g30, g31, g32]))])) (wr := []) hP hD hK hS hA [0] [] rfl rfl (by decide) (by decide) (by decide) (fun hPc hDc => (va_runV (As := [.int 0, .int k2, .int k3, .int k4]) (rest := []) ⟨hx, hb, hml, hown, hts⟩ (kfX12_refusesQuestion_nul_s0 l dC dI a0 k2 k3 k4 (.int 0) (.int m_t.2.1) (.int m_t.2.2) (.null) (g7) (g8) (g9) (g10) (g11) (g12) (g13) (g14) (g15) (g16) (g17) (g18) (g19) (g20) (g21) (g22) (g23) (g24) (g25) (g26) (g27) (g28) (g29) (g30) (g31) (g32) H.size () rfl) (cwV 4 hts gfX12_takes_nul_1 rfl rfl rfl (by decide +kernel) ⟨(Nat.le_of_ble_eq_true rfl), (Nat.le_of_ble_eq_true rfl)⟩) (PV hPc (hK.sub (tys' := ([])) [] rfl) hDc hN 0 rfl rfl) rfl rfl hl.1 rfl (lv_room (Nat.le_of_ble_eq_true rfl)) (zat zrX12_takes_0_ok 10 rfl) ⟨(Nat.le_of_ble_eq_true rfl), (Nat.le_of_ble_eq_true rfl)⟩)) (fun r15 _ H locs hw hP hD _ hS => ?_)
  obtain rfl := hw
  obtain ⟨hP, hD⟩ := pd_mk ([(a0, .inr (9, [.int 0, .int m_t.2.1, .int m_t.2.2, .null, g7, g8, g9, g10, g11, g12, g13, g14, g15, g16, g17, g18, g19, g20, g21, g22, g23, g24, g25, g26, g27, g28, g29, g30, g31, g32]))]) hP hD
  refine lv_istore (lv' := [(6, .int 1), (0, .ref a0), (1, .int k1), (2, .int k2), (3, .int k3), (4, .int k4), (5, .int k5)]) hx hb (zat zrX12_takes_0_ok 11 rfl) hl (by decide) rfl (fun ls hl => ?_)
  refine lv_iload hx hb (zat zrX12_takes_0_ok 12 rfl) (lv_at hl 0 rfl) ?_
  refine lv_if_le (tgt := 35) hx hb (zat zrX12_takes_0_ok 13 rfl) (by decide) (fun c22 => absurd c22 (by decide)) (fun _ => ?_)
  refine lv_aload_n hx hb (zat zrX12_takes_0_ok 14 rfl) rfl (lv_at hl 1 rfl) ?_
  refine lv_iload hx hb (zat zrX12_takes_0_ok 15 rfl) (lv_at hl 0 rfl) ?_
  obtain ⟨o28, eo28⟩ : ∃ o, o = f_X12_refused_nul (1 : Int32) ((0 : Int32), m_t.2) := ⟨_, rfl⟩
  have h := nm_of h o28 eo28
  refine ck_i (wc := ([(a0, .inr (9, [.int 0, .int m_t.2.1, .int m_t.2.2, .null, g7, g8, g9, g10, g11, g12, g13, g14, g15, g16, g17, g18, g19, g20, g21, g22, g23, g24, g25, g26, g27, g28, g29, g30, g31, g32]))])) (wr := []) hP hD hK hS hA [0] [] rfl rfl (by decide) (by decide) (by decide) (fun hPc hDc => (va_runV (As := [.int 1]) (rest := []) ⟨hx, hb, hml, hown, hts⟩ (kfX12_refused_nul l dC dI a0 (1 : Int32) ((0 : Int32), m_t.2) (.null) (g7) (g8) (g9) (g10) (g11) (g12) (g13) (g14) (g15) (g16) (g17) (g18) (g19) (g20) (g21) (g22) (g23) (g24) (g25) (g26) (g27) (g28) (g29) (g30) (g31) (g32) H.size o28 eo28.symm) (cwV 1 hts gfX12_takes_nul_2 rfl rfl rfl (by decide +kernel) ⟨(Nat.le_of_ble_eq_true rfl), (Nat.le_of_ble_eq_true rfl)⟩) (PV hPc (hK.sub (tys' := ([])) [] rfl) hDc hN 0 rfl rfl) rfl rfl hl.1 rfl (lv_room (Nat.le_of_ble_eq_true rfl)) (zat zrX12_takes_0_ok 16 rfl) ⟨(Nat.le_of_ble_eq_true rfl), (Nat.le_of_ble_eq_true rfl)⟩)) (fun r28 _ H locs hw hP hD _ hS => ?_)
  obtain rfl := hw
  obtain ⟨hP, hD⟩ := pd_mk ([(a0, .inr (9, [.int o28.1, .int o28.2.1, .int o28.2.2, .null, g7, g8, g9, g10, g11, g12, g13, g14, g15, g16, g17, g18, g19, g20, g21, g22, g23, g24, g25, g26, g27, g28, g29, g30, g31, g32]))]) hP hD
  refine lv_i2l (v := (-1)) hx hb (zat zrX12_takes_0_ok 17 rfl) (by decide) ?_
  refine lv_goto (tgt := 58) hx hb (zat zrX12_takes_0_ok 18 rfl) (by decide) ?_
  obtain rfl := h
  obtain ⟨hP9, hD9⟩ := pd_sub ([(a0, .inr (9, [.int o28.1, .int o28.2.1, .int o28.2.2, .null, g7, g8, g9, g10, g11, g12, g13, g14, g15, g16, g17, g18, g19, g20, g21, g22, g23, g24, g25, g26, g27, g28, g29, g30, g31, g32]))]) [0] hP hD (by decide) rfl
  have hK9 := hK.sub (tys' := []) [] rfl
  rw [hQQ]
  exact W.lret (v := (-1 : Int64)) hx hb hr (fun t ht hW => ⟨⟨(-1 : Int64), (), rfl, rfl, by rw [ht]; exact hP9, va_K.moved hW.alike hK9, hD9⟩, hS.F ht⟩) hS.2.2 (zat zrX12_takes_0_ok 32 rfl)
theorem dX12_nothing_17 : decode cX12_nothing 17 = .ok (.iconst 0, 1) := by decide +kernel
def vfX12_nothing_nul : List Cond := List.cons (.code yX12_nothing cX12_nothing 6 (some .long)) (apW [.fieldLink RX12 36 "HookPierModel" "thrown" "I", .fieldLink RX12 299 "HookPierModel" "pier" "LHookPierModel$Pier;", .methodLink RX12 353 yX12_refusesQuestion, .instanceMethod yX12_refusesQuestion, .selects RX12 yX12_refusesQuestion yX12_refusesQuestion, .initialized RX12, .methodLink RX12 42 yX12_refused, .instanceMethod yX12_refused, .selects RX12 yX12_refused yX12_refused] (apW wsX120 (apW vfX12_refusesQuestion_nul_s0 (vfX12_refused_nul))))
theorem ifX12_nothing_nul_X12 : ∀ w ∈ wsX120, w ∈ vfX12_nothing_nul := fun _ h => (List.mem_cons_of_mem _ (List.mem_append_right _ (List.mem_append_left _ h)))
theorem qfX12_nothing_nul : Good vfX12_nothing_nul := gd_cons (by decide +kernel) (gd_app (gd_dec (by decide +kernel) : Good [.fieldLink RX12 36 "HookPierModel" "thrown" "I", .fieldLink RX12 299 "HookPierModel" "pier" "LHookPierModel$Pier;", .methodLink RX12 353 yX12_refusesQuestion, .instanceMethod yX12_refusesQuestion, .selects RX12 yX12_refusesQuestion yX12_refusesQuestion, .initialized RX12, .methodLink RX12 42 yX12_refused, .instanceMethod yX12_refused, .selects RX12 yX12_refused yX12_refused]) (gd_app qsX12 (gd_app qfX12_refusesQuestion_nul_s0 qfX12_refused_nul)))
theorem gfX12_nothing_nul_0 : GoodIn vfX12_nothing_nul (wsV RX12 353 RX12 yX12_refusesQuestion vfX12_refusesQuestion_nul_s0) := goodIn_app (goodIn_r [.methodLink RX12 353 yX12_refusesQuestion, .instanceMethod yX12_refusesQuestion, .selects RX12 yX12_refusesQuestion yX12_refusesQuestion, .initialized RX12] [3, 4, 5, 6] rfl (by decide +kernel)) (goodIn_m (fun _ h => (List.mem_cons_of_mem _ (List.mem_append_right _ (List.mem_append_right _ (List.mem_append_left _ h))))) qfX12_refusesQuestion_nul_s0)
theorem gfX12_nothing_nul_1 : GoodIn vfX12_nothing_nul (wsV RX12 42 RX12 yX12_refused vfX12_refused_nul) := goodIn_app (goodIn_r [.methodLink RX12 42 yX12_refused, .instanceMethod yX12_refused, .selects RX12 yX12_refused yX12_refused, .initialized RX12] [7, 8, 9, 6] rfl (by decide +kernel)) (goodIn_m (fun _ h => (List.mem_cons_of_mem _ (List.mem_append_right _ (List.mem_append_right _ (List.mem_append_right _ h))))) qfX12_refused_nul)
set_option maxHeartbeats 2000000 in
set_option maxRecDepth 100000 in
theorem kfX12_nothing_nul (l : Launch) (dC : Nat → ClassId) (dI : Nat → Nat → Nat) (a0 : Nat) (k1 : Int32) (k2 : Int32) (k3 : Int32) (k4 : Int32) (m_t : TX12_t) (g6 : Value) (g7 : Value) (g8 : Value) (g9 : Value) (g10 : Value) (g11 : Value) (g12 : Value) (g13 : Value) (g14 : Value) (g15 : Value) (g16 : Value) (g17 : Value) (g18 : Value) (g19 : Value) (g20 : Value) (g21 : Value) (g22 : Value) (g23 : Value) (g24 : Value) (g25 : Value) (g26 : Value) (g27 : Value) (g28 : Value) (g29 : Value) (g30 : Value) (g31 : Value) (sz : Nat) (out : TX12_t) (h : f_X12_nothing_nul k1 k2 k3 k4 m_t = out) : KCl l yX12_nothing vfX12_nothing_nul ({ frames := 1, cells := 0, slots := 0, locals := 24 }) (dC, dI) [.ref a0, .int k1, .int k2, .int k3, .int k4] sz ([(a0, .inr (9, [.int m_t.1, .int m_t.2.1, .int m_t.2.2, .null, g6, g7, g8, g9, g10, g11, g12, g13, g14, g15, g16, g17, g18, g19, g20, g21, g22, g23, g24, g25, g26, g27, g28, g29, g30, g31]))]) ([]) (fun (r : Int64) _ => r = (-1)) ([(a0, .inr (9, [.int out.1, .int out.2.1, .int out.2.2, .null, g6, g7, g8, g9, g10, g11, g12, g13, g14, g15, g16, g17, g18, g19, g20, g21, g22, g23, g24, g25, g26, g27, g28, g29, g30, g31]))]) 0 0 := by
  refine Met.ofW (cc := cX12_nothing) (maxL := 6) (ret := (some .long)) (by decide) rfl ?_
  intro p e s m args below meth c s₁ B0 hml hv
  obtain ⟨rfl, hsz, hP, hK, hD0, hN⟩ := hv
  have hx := B0.exec
  have hb := B0.bytes
  have hr := B0.returns
  have hts := atoms_spec (ws := vfX12_nothing_nul) B0.pre
  have hown : s.vm.findClass RX12 = some m.cls := findClass_of_methodNamed B0.named
  have hlocks := B0.notSynchronized
  subst hsz
  have hD := hD0.self (sz := s.heap.size)
  generalize hAe : va_A ([(a0, .inr (9, [.int m_t.1, .int m_t.2.1, .int m_t.2.2, .null, g6, g7, g8, g9, g10, g11, g12, g13, g14, g15, g16, g17, g18, g19, g20, g21, g22, g23, g24, g25, g26, g27, g28, g29, g30, g31]))]) s.heap.size = A at hD ⊢
  have hA : ∀ q : Nat, s.heap.size ≤ q → A q := fun q h => by rw [← hAe]; exact Or.inr h
  have hS : va_S A s.heap s.heap [] := va_S.rf
  have hP : va_P (dC, dI) vwCl ([(a0, .inr (9, [.int m_t.1, .int m_t.2.1, .int m_t.2.2, .null, g6, g7, g8, g9, g10, g11, g12, g13, g14, g15, g16, g17, g18, g19, g20, g21, g22, g23, g24, g25, g26, g27, g28, g29, g30, g31]))]) s.heap := hP
  have hl := lv_entry ([.ref a0, .int k1, .int k2, .int k3, .int k4]) (n := 6) (Nat.le_of_ble_eq_true rfl)
  rw [lg_entry_eq]
  generalize (lg_sl ([.ref a0, .int k1, .int k2, .int k3, .int k4]) ++ List.replicate (6 - (lg_sl ([.ref a0, .int k1, .int k2, .int k3, .int k4])).length) Slot.unset).toArray = ls at hl ⊢
  have hl : lv_has ls 6 [(0, .ref a0), (1, .int k1), (2, .int k2), (3, .int k3), (4, .int k4)] := hl
  refine W_q (fun QQ hQQ => ?_)
  rw [f_X12_nothing_nul] at h
  refine lv_aload_n hx hb (zat zrX12_nothing_0_ok 0 rfl) rfl (lv_at hl 0 rfl) ?_
  refine lv_iconst (v := 0) hx hb (zat zrX12_nothing_0_ok 1 rfl) (by decide) ?_
  refine va_put (D := (dC, dI)) (ci := 9) (v := .int 0) (ty := .int) (C := RX12) (T := TX12) (N := 30) hx hb hts ifX12_nothing_nul_X12 tyX12 tyX12_ok nmX12 hown hK hP hD hS 0 rfl rfl 0 (by decide) (hts (.fieldLink RX12 36 "HookPierModel" "thrown" "I") (List.mem_of_getElem? (i := 1) rfl)) (fun _ h9 => h9) rfl (by decide +kernel) rfl rfl (Nat.le_of_ble_eq_true rfl) (zat zrX12_nothing_0_ok 2 rfl) (fun H locs hP hD hS => ?_)
  obtain ⟨hP, hD⟩ := pd_mk ([(a0, .inr (9, [.int 0, .int m_t.2.1, .int m_t.2.2, .null, g6, g7, g8, g9, g10, g11, g12, g13, g14, g15, g16, g17, g18, g19, g20, g21, g22, g23, g24, g25, g26, g27, g28, g29, g30, g31]))]) hP hD
  refine lv_aload_n hx hb (zat zrX12_nothing_0_ok 3 rfl) rfl (lv_at hl 0 rfl) ?_
  refine lv_aload_n hx hb (zat zrX12_nothing_0_ok 4 rfl) rfl (lv_at hl 0 rfl) ?_
  refine va_get (D := (dC, dI)) (ci := 9) (v := .null) (C := RX12) (T := TX12) (N := 30) hx hb hts ifX12_nothing_nul_X12 hown hK hP 0 rfl rfl 3 (by decide) (hts (.fieldLink RX12 299 "HookPierModel" "pier" "LHookPierModel$Pier;") (List.mem_of_getElem? (i := 2) rfl)) (fun _ h9 => h9) rfl (zat zrX12_nothing_0_ok 5 rfl) ?_
  refine lv_ifnullN (tgt := 17) hx hb (zat zrX12_nothing_0_ok 6 rfl) (by decide) ?_
  refine lv_iconst (v := 0) hx hb dX12_nothing_17 (by decide) ?_
  refine lv_iload_n hx hb (zat zrX12_nothing_0_ok 10 rfl) rfl (lv_at hl 1 rfl) ?_
  refine lv_iload_n hx hb (zat zrX12_nothing_0_ok 11 rfl) rfl (lv_at hl 2 rfl) ?_
  refine lv_iload_n hx hb (zat zrX12_nothing_0_ok 12 rfl) rfl (lv_at hl 3 rfl) ?_
  refine ck_i (wc := ([(a0, .inr (9, [.int 0, .int m_t.2.1, .int m_t.2.2, .null, g6, g7, g8, g9, g10, g11, g12, g13, g14, g15, g16, g17, g18, g19, g20, g21, g22, g23, g24, g25, g26, g27, g28, g29, g30, g31]))])) (wr := []) hP hD hK hS hA [0] [] rfl rfl (by decide) (by decide) (by decide) (fun hPc hDc => (va_runV (As := [.int 0, .int k1, .int k2, .int k3]) (rest := []) ⟨hx, hb, hml, hown, hts⟩ (kfX12_refusesQuestion_nul_s0 l dC dI a0 k1 k2 k3 (.int 0) (.int m_t.2.1) (.int m_t.2.2) (.null) (g6) (g7) (g8) (g9) (g10) (g11) (g12) (g13) (g14) (g15) (g16) (g17) (g18) (g19) (g20) (g21) (g22) (g23) (g24) (g25) (g26) (g27) (g28) (g29) (g30) (g31) H.size () rfl) (cwV 4 hts gfX12_nothing_nul_0 rfl rfl rfl (by decide +kernel) ⟨(Nat.le_of_ble_eq_true rfl), (Nat.le_of_ble_eq_true rfl)⟩) (PV hPc (hK.sub (tys' := ([])) [] rfl) hDc hN 0 rfl rfl) rfl rfl hl.1 rfl (lv_room (Nat.le_of_ble_eq_true rfl)) (zat zrX12_nothing_0_ok 13 rfl) ⟨(Nat.le_of_ble_eq_true rfl), (Nat.le_of_ble_eq_true rfl)⟩)) (fun r21 _ H locs hw hP hD _ hS => ?_)
  obtain rfl := hw
  obtain ⟨hP, hD⟩ := pd_mk ([(a0, .inr (9, [.int 0, .int m_t.2.1, .int m_t.2.2, .null, g6, g7, g8, g9, g10, g11, g12, g13, g14, g15, g16, g17, g18, g19, g20, g21, g22, g23, g24, g25, g26, g27, g28, g29, g30, g31]))]) hP hD
  refine lv_istore (lv' := [(5, .int 1), (0, .ref a0), (1, .int k1), (2, .int k2), (3, .int k3), (4, .int k4)]) hx hb (zat zrX12_nothing_0_ok 14 rfl) hl (by decide) rfl (fun ls hl => ?_)
  refine lv_iload hx hb (zat zrX12_nothing_0_ok 15 rfl) (lv_at hl 0 rfl) ?_
  refine lv_if_le (tgt := 41) hx hb (zat zrX12_nothing_0_ok 16 rfl) (by decide) (fun c28 => absurd c28 (by decide)) (fun _ => ?_)
  refine lv_aload_n hx hb (zat zrX12_nothing_0_ok 17 rfl) rfl (lv_at hl 1 rfl) ?_
  refine lv_iload hx hb (zat zrX12_nothing_0_ok 18 rfl) (lv_at hl 0 rfl) ?_
  obtain ⟨o34, eo34⟩ : ∃ o, o = f_X12_refused_nul (1 : Int32) ((0 : Int32), m_t.2) := ⟨_, rfl⟩
  have h := nm_of h o34 eo34
  refine ck_i (wc := ([(a0, .inr (9, [.int 0, .int m_t.2.1, .int m_t.2.2, .null, g6, g7, g8, g9, g10, g11, g12, g13, g14, g15, g16, g17, g18, g19, g20, g21, g22, g23, g24, g25, g26, g27, g28, g29, g30, g31]))])) (wr := []) hP hD hK hS hA [0] [] rfl rfl (by decide) (by decide) (by decide) (fun hPc hDc => (va_runV (As := [.int 1]) (rest := []) ⟨hx, hb, hml, hown, hts⟩ (kfX12_refused_nul l dC dI a0 (1 : Int32) ((0 : Int32), m_t.2) (.null) (g6) (g7) (g8) (g9) (g10) (g11) (g12) (g13) (g14) (g15) (g16) (g17) (g18) (g19) (g20) (g21) (g22) (g23) (g24) (g25) (g26) (g27) (g28) (g29) (g30) (g31) H.size o34 eo34.symm) (cwV 1 hts gfX12_nothing_nul_1 rfl rfl rfl (by decide +kernel) ⟨(Nat.le_of_ble_eq_true rfl), (Nat.le_of_ble_eq_true rfl)⟩) (PV hPc (hK.sub (tys' := ([])) [] rfl) hDc hN 0 rfl rfl) rfl rfl hl.1 rfl (lv_room (Nat.le_of_ble_eq_true rfl)) (zat zrX12_nothing_0_ok 19 rfl) ⟨(Nat.le_of_ble_eq_true rfl), (Nat.le_of_ble_eq_true rfl)⟩)) (fun r34 _ H locs hw hP hD _ hS => ?_)
  obtain rfl := hw
  obtain ⟨hP, hD⟩ := pd_mk ([(a0, .inr (9, [.int o34.1, .int o34.2.1, .int o34.2.2, .null, g6, g7, g8, g9, g10, g11, g12, g13, g14, g15, g16, g17, g18, g19, g20, g21, g22, g23, g24, g25, g26, g27, g28, g29, g30, g31]))]) hP hD
  refine lv_i2l (v := (-1)) hx hb (zat zrX12_nothing_0_ok 20 rfl) (by decide) ?_
  refine lv_goto (tgt := 62) hx hb (zat zrX12_nothing_0_ok 21 rfl) (by decide) ?_
  obtain rfl := h
  obtain ⟨hP9, hD9⟩ := pd_sub ([(a0, .inr (9, [.int o34.1, .int o34.2.1, .int o34.2.2, .null, g6, g7, g8, g9, g10, g11, g12, g13, g14, g15, g16, g17, g18, g19, g20, g21, g22, g23, g24, g25, g26, g27, g28, g29, g30, g31]))]) [0] hP hD (by decide) rfl
  have hK9 := hK.sub (tys' := []) [] rfl
  rw [hQQ]
  exact W.lret (v := (-1 : Int64)) hx hb hr (fun t ht hW => ⟨⟨(-1 : Int64), (), rfl, rfl, by rw [ht]; exact hP9, va_K.moved hW.alike hK9, hD9⟩, hS.F ht⟩) hS.2.2 (zat zrX12_nothing_0_ok 34 rfl)
theorem dX12_mean_17 : decode cX12_mean 17 = .ok (.iconst 0, 1) := by decide +kernel
def vfX12_mean_nul : List Cond := List.cons (.code yX12_mean cX12_mean 6 (some .long)) (apW [.fieldLink RX12 36 "HookPierModel" "thrown" "I", .fieldLink RX12 299 "HookPierModel" "pier" "LHookPierModel$Pier;", .methodLink RX12 353 yX12_refusesQuestion, .instanceMethod yX12_refusesQuestion, .selects RX12 yX12_refusesQuestion yX12_refusesQuestion, .initialized RX12, .methodLink RX12 42 yX12_refused, .instanceMethod yX12_refused, .selects RX12 yX12_refused yX12_refused] (apW wsX120 (apW vfX12_refusesQuestion_nul_s0 (vfX12_refused_nul))))
theorem ifX12_mean_nul_X12 : ∀ w ∈ wsX120, w ∈ vfX12_mean_nul := fun _ h => (List.mem_cons_of_mem _ (List.mem_append_right _ (List.mem_append_left _ h)))
theorem qfX12_mean_nul : Good vfX12_mean_nul := gd_cons (by decide +kernel) (gd_app (gd_dec (by decide +kernel) : Good [.fieldLink RX12 36 "HookPierModel" "thrown" "I", .fieldLink RX12 299 "HookPierModel" "pier" "LHookPierModel$Pier;", .methodLink RX12 353 yX12_refusesQuestion, .instanceMethod yX12_refusesQuestion, .selects RX12 yX12_refusesQuestion yX12_refusesQuestion, .initialized RX12, .methodLink RX12 42 yX12_refused, .instanceMethod yX12_refused, .selects RX12 yX12_refused yX12_refused]) (gd_app qsX12 (gd_app qfX12_refusesQuestion_nul_s0 qfX12_refused_nul)))
theorem gfX12_mean_nul_0 : GoodIn vfX12_mean_nul (wsV RX12 353 RX12 yX12_refusesQuestion vfX12_refusesQuestion_nul_s0) := goodIn_app (goodIn_r [.methodLink RX12 353 yX12_refusesQuestion, .instanceMethod yX12_refusesQuestion, .selects RX12 yX12_refusesQuestion yX12_refusesQuestion, .initialized RX12] [3, 4, 5, 6] rfl (by decide +kernel)) (goodIn_m (fun _ h => (List.mem_cons_of_mem _ (List.mem_append_right _ (List.mem_append_right _ (List.mem_append_left _ h))))) qfX12_refusesQuestion_nul_s0)
theorem gfX12_mean_nul_1 : GoodIn vfX12_mean_nul (wsV RX12 42 RX12 yX12_refused vfX12_refused_nul) := goodIn_app (goodIn_r [.methodLink RX12 42 yX12_refused, .instanceMethod yX12_refused, .selects RX12 yX12_refused yX12_refused, .initialized RX12] [7, 8, 9, 6] rfl (by decide +kernel)) (goodIn_m (fun _ h => (List.mem_cons_of_mem _ (List.mem_append_right _ (List.mem_append_right _ (List.mem_append_right _ h))))) qfX12_refused_nul)
set_option maxHeartbeats 2000000 in
set_option maxRecDepth 100000 in
theorem kfX12_mean_nul (l : Launch) (dC : Nat → ClassId) (dI : Nat → Nat → Nat) (a0 : Nat) (k1 : Int32) (k2 : Int32) (k3 : Int32) (k4 : Int32) (m_t : TX12_t) (g6 : Value) (g7 : Value) (g8 : Value) (g9 : Value) (g10 : Value) (g11 : Value) (g12 : Value) (g13 : Value) (g14 : Value) (g15 : Value) (g16 : Value) (g17 : Value) (g18 : Value) (g19 : Value) (g20 : Value) (g21 : Value) (g22 : Value) (g23 : Value) (g24 : Value) (g25 : Value) (g26 : Value) (g27 : Value) (g28 : Value) (g29 : Value) (g30 : Value) (g31 : Value) (sz : Nat) (out : TX12_t) (h : f_X12_mean_nul k1 k2 k3 k4 m_t = out) : KCl l yX12_mean vfX12_mean_nul ({ frames := 1, cells := 0, slots := 0, locals := 24 }) (dC, dI) [.ref a0, .int k1, .int k2, .int k3, .int k4] sz ([(a0, .inr (9, [.int m_t.1, .int m_t.2.1, .int m_t.2.2, .null, g6, g7, g8, g9, g10, g11, g12, g13, g14, g15, g16, g17, g18, g19, g20, g21, g22, g23, g24, g25, g26, g27, g28, g29, g30, g31]))]) ([]) (fun (r : Int64) _ => r = (-1)) ([(a0, .inr (9, [.int out.1, .int out.2.1, .int out.2.2, .null, g6, g7, g8, g9, g10, g11, g12, g13, g14, g15, g16, g17, g18, g19, g20, g21, g22, g23, g24, g25, g26, g27, g28, g29, g30, g31]))]) 0 0 := by
  refine Met.ofW (cc := cX12_mean) (maxL := 6) (ret := (some .long)) (by decide) rfl ?_
  intro p e s m args below meth c s₁ B0 hml hv
  obtain ⟨rfl, hsz, hP, hK, hD0, hN⟩ := hv
  have hx := B0.exec
  have hb := B0.bytes
  have hr := B0.returns
  have hts := atoms_spec (ws := vfX12_mean_nul) B0.pre
  have hown : s.vm.findClass RX12 = some m.cls := findClass_of_methodNamed B0.named
  have hlocks := B0.notSynchronized
  subst hsz
  have hD := hD0.self (sz := s.heap.size)
  generalize hAe : va_A ([(a0, .inr (9, [.int m_t.1, .int m_t.2.1, .int m_t.2.2, .null, g6, g7, g8, g9, g10, g11, g12, g13, g14, g15, g16, g17, g18, g19, g20, g21, g22, g23, g24, g25, g26, g27, g28, g29, g30, g31]))]) s.heap.size = A at hD ⊢
  have hA : ∀ q : Nat, s.heap.size ≤ q → A q := fun q h => by rw [← hAe]; exact Or.inr h
  have hS : va_S A s.heap s.heap [] := va_S.rf
  have hP : va_P (dC, dI) vwCl ([(a0, .inr (9, [.int m_t.1, .int m_t.2.1, .int m_t.2.2, .null, g6, g7, g8, g9, g10, g11, g12, g13, g14, g15, g16, g17, g18, g19, g20, g21, g22, g23, g24, g25, g26, g27, g28, g29, g30, g31]))]) s.heap := hP
  have hl := lv_entry ([.ref a0, .int k1, .int k2, .int k3, .int k4]) (n := 6) (Nat.le_of_ble_eq_true rfl)
  rw [lg_entry_eq]
  generalize (lg_sl ([.ref a0, .int k1, .int k2, .int k3, .int k4]) ++ List.replicate (6 - (lg_sl ([.ref a0, .int k1, .int k2, .int k3, .int k4])).length) Slot.unset).toArray = ls at hl ⊢
  have hl : lv_has ls 6 [(0, .ref a0), (1, .int k1), (2, .int k2), (3, .int k3), (4, .int k4)] := hl
  refine W_q (fun QQ hQQ => ?_)
  rw [f_X12_mean_nul] at h
  refine lv_aload_n hx hb (zat zrX12_mean_0_ok 0 rfl) rfl (lv_at hl 0 rfl) ?_
  refine lv_iconst (v := 0) hx hb (zat zrX12_mean_0_ok 1 rfl) (by decide) ?_
  refine va_put (D := (dC, dI)) (ci := 9) (v := .int 0) (ty := .int) (C := RX12) (T := TX12) (N := 30) hx hb hts ifX12_mean_nul_X12 tyX12 tyX12_ok nmX12 hown hK hP hD hS 0 rfl rfl 0 (by decide) (hts (.fieldLink RX12 36 "HookPierModel" "thrown" "I") (List.mem_of_getElem? (i := 1) rfl)) (fun _ h9 => h9) rfl (by decide +kernel) rfl rfl (Nat.le_of_ble_eq_true rfl) (zat zrX12_mean_0_ok 2 rfl) (fun H locs hP hD hS => ?_)
  obtain ⟨hP, hD⟩ := pd_mk ([(a0, .inr (9, [.int 0, .int m_t.2.1, .int m_t.2.2, .null, g6, g7, g8, g9, g10, g11, g12, g13, g14, g15, g16, g17, g18, g19, g20, g21, g22, g23, g24, g25, g26, g27, g28, g29, g30, g31]))]) hP hD
  refine lv_aload_n hx hb (zat zrX12_mean_0_ok 3 rfl) rfl (lv_at hl 0 rfl) ?_
  refine lv_aload_n hx hb (zat zrX12_mean_0_ok 4 rfl) rfl (lv_at hl 0 rfl) ?_
  refine va_get (D := (dC, dI)) (ci := 9) (v := .null) (C := RX12) (T := TX12) (N := 30) hx hb hts ifX12_mean_nul_X12 hown hK hP 0 rfl rfl 3 (by decide) (hts (.fieldLink RX12 299 "HookPierModel" "pier" "LHookPierModel$Pier;") (List.mem_of_getElem? (i := 2) rfl)) (fun _ h9 => h9) rfl (zat zrX12_mean_0_ok 5 rfl) ?_
  refine lv_ifnullN (tgt := 17) hx hb (zat zrX12_mean_0_ok 6 rfl) (by decide) ?_
  refine lv_iconst (v := 0) hx hb dX12_mean_17 (by decide) ?_
  refine lv_iload_n hx hb (zat zrX12_mean_0_ok 10 rfl) rfl (lv_at hl 1 rfl) ?_
  refine lv_iload_n hx hb (zat zrX12_mean_0_ok 11 rfl) rfl (lv_at hl 2 rfl) ?_
  refine lv_iload_n hx hb (zat zrX12_mean_0_ok 12 rfl) rfl (lv_at hl 3 rfl) ?_
  refine ck_i (wc := ([(a0, .inr (9, [.int 0, .int m_t.2.1, .int m_t.2.2, .null, g6, g7, g8, g9, g10, g11, g12, g13, g14, g15, g16, g17, g18, g19, g20, g21, g22, g23, g24, g25, g26, g27, g28, g29, g30, g31]))])) (wr := []) hP hD hK hS hA [0] [] rfl rfl (by decide) (by decide) (by decide) (fun hPc hDc => (va_runV (As := [.int 0, .int k1, .int k2, .int k3]) (rest := []) ⟨hx, hb, hml, hown, hts⟩ (kfX12_refusesQuestion_nul_s0 l dC dI a0 k1 k2 k3 (.int 0) (.int m_t.2.1) (.int m_t.2.2) (.null) (g6) (g7) (g8) (g9) (g10) (g11) (g12) (g13) (g14) (g15) (g16) (g17) (g18) (g19) (g20) (g21) (g22) (g23) (g24) (g25) (g26) (g27) (g28) (g29) (g30) (g31) H.size () rfl) (cwV 4 hts gfX12_mean_nul_0 rfl rfl rfl (by decide +kernel) ⟨(Nat.le_of_ble_eq_true rfl), (Nat.le_of_ble_eq_true rfl)⟩) (PV hPc (hK.sub (tys' := ([])) [] rfl) hDc hN 0 rfl rfl) rfl rfl hl.1 rfl (lv_room (Nat.le_of_ble_eq_true rfl)) (zat zrX12_mean_0_ok 13 rfl) ⟨(Nat.le_of_ble_eq_true rfl), (Nat.le_of_ble_eq_true rfl)⟩)) (fun r21 _ H locs hw hP hD _ hS => ?_)
  obtain rfl := hw
  obtain ⟨hP, hD⟩ := pd_mk ([(a0, .inr (9, [.int 0, .int m_t.2.1, .int m_t.2.2, .null, g6, g7, g8, g9, g10, g11, g12, g13, g14, g15, g16, g17, g18, g19, g20, g21, g22, g23, g24, g25, g26, g27, g28, g29, g30, g31]))]) hP hD
  refine lv_istore (lv' := [(5, .int 1), (0, .ref a0), (1, .int k1), (2, .int k2), (3, .int k3), (4, .int k4)]) hx hb (zat zrX12_mean_0_ok 14 rfl) hl (by decide) rfl (fun ls hl => ?_)
  refine lv_iload hx hb (zat zrX12_mean_0_ok 15 rfl) (lv_at hl 0 rfl) ?_
  refine lv_if_le (tgt := 41) hx hb (zat zrX12_mean_0_ok 16 rfl) (by decide) (fun c28 => absurd c28 (by decide)) (fun _ => ?_)
  refine lv_aload_n hx hb (zat zrX12_mean_0_ok 17 rfl) rfl (lv_at hl 1 rfl) ?_
  refine lv_iload hx hb (zat zrX12_mean_0_ok 18 rfl) (lv_at hl 0 rfl) ?_
  obtain ⟨o34, eo34⟩ : ∃ o, o = f_X12_refused_nul (1 : Int32) ((0 : Int32), m_t.2) := ⟨_, rfl⟩
  have h := nm_of h o34 eo34
  refine ck_i (wc := ([(a0, .inr (9, [.int 0, .int m_t.2.1, .int m_t.2.2, .null, g6, g7, g8, g9, g10, g11, g12, g13, g14, g15, g16, g17, g18, g19, g20, g21, g22, g23, g24, g25, g26, g27, g28, g29, g30, g31]))])) (wr := []) hP hD hK hS hA [0] [] rfl rfl (by decide) (by decide) (by decide) (fun hPc hDc => (va_runV (As := [.int 1]) (rest := []) ⟨hx, hb, hml, hown, hts⟩ (kfX12_refused_nul l dC dI a0 (1 : Int32) ((0 : Int32), m_t.2) (.null) (g6) (g7) (g8) (g9) (g10) (g11) (g12) (g13) (g14) (g15) (g16) (g17) (g18) (g19) (g20) (g21) (g22) (g23) (g24) (g25) (g26) (g27) (g28) (g29) (g30) (g31) H.size o34 eo34.symm) (cwV 1 hts gfX12_mean_nul_1 rfl rfl rfl (by decide +kernel) ⟨(Nat.le_of_ble_eq_true rfl), (Nat.le_of_ble_eq_true rfl)⟩) (PV hPc (hK.sub (tys' := ([])) [] rfl) hDc hN 0 rfl rfl) rfl rfl hl.1 rfl (lv_room (Nat.le_of_ble_eq_true rfl)) (zat zrX12_mean_0_ok 19 rfl) ⟨(Nat.le_of_ble_eq_true rfl), (Nat.le_of_ble_eq_true rfl)⟩)) (fun r34 _ H locs hw hP hD _ hS => ?_)
  obtain rfl := hw
  obtain ⟨hP, hD⟩ := pd_mk ([(a0, .inr (9, [.int o34.1, .int o34.2.1, .int o34.2.2, .null, g6, g7, g8, g9, g10, g11, g12, g13, g14, g15, g16, g17, g18, g19, g20, g21, g22, g23, g24, g25, g26, g27, g28, g29, g30, g31]))]) hP hD
  refine lv_i2l (v := (-1)) hx hb (zat zrX12_mean_0_ok 20 rfl) (by decide) ?_
  refine lv_goto (tgt := 62) hx hb (zat zrX12_mean_0_ok 21 rfl) (by decide) ?_
  obtain rfl := h
  obtain ⟨hP9, hD9⟩ := pd_sub ([(a0, .inr (9, [.int o34.1, .int o34.2.1, .int o34.2.2, .null, g6, g7, g8, g9, g10, g11, g12, g13, g14, g15, g16, g17, g18, g19, g20, g21, g22, g23, g24, g25, g26, g27, g28, g29, g30, g31]))]) [0] hP hD (by decide) rfl
  have hK9 := hK.sub (tys' := []) [] rfl
  rw [hQQ]
  exact W.lret (v := (-1 : Int64)) hx hb hr (fun t ht hW => ⟨⟨(-1 : Int64), (), rfl, rfl, by rw [ht]; exact hP9, va_K.moved hW.alike hK9, hD9⟩, hS.F ht⟩) hS.2.2 (zat zrX12_mean_0_ok 34 rfl)
theorem dX12_likeliest_17 : decode cX12_likeliest 17 = .ok (.iconst 0, 1) := by decide +kernel
def vfX12_likeliest_nul : List Cond := List.cons (.code yX12_likeliest cX12_likeliest 10 (some .int)) (apW [.fieldLink RX12 36 "HookPierModel" "thrown" "I", .fieldLink RX12 299 "HookPierModel" "pier" "LHookPierModel$Pier;", .methodLink RX12 353 yX12_refusesQuestion, .instanceMethod yX12_refusesQuestion, .selects RX12 yX12_refusesQuestion yX12_refusesQuestion, .initialized RX12, .methodLink RX12 42 yX12_refused, .instanceMethod yX12_refused, .selects RX12 yX12_refused yX12_refused] (apW wsX120 (apW vfX12_refusesQuestion_nul_s0 (vfX12_refused_nul))))
theorem ifX12_likeliest_nul_X12 : ∀ w ∈ wsX120, w ∈ vfX12_likeliest_nul := fun _ h => (List.mem_cons_of_mem _ (List.mem_append_right _ (List.mem_append_left _ h)))
theorem qfX12_likeliest_nul : Good vfX12_likeliest_nul := gd_cons (by decide +kernel) (gd_app (gd_dec (by decide +kernel) : Good [.fieldLink RX12 36 "HookPierModel" "thrown" "I", .fieldLink RX12 299 "HookPierModel" "pier" "LHookPierModel$Pier;", .methodLink RX12 353 yX12_refusesQuestion, .instanceMethod yX12_refusesQuestion, .selects RX12 yX12_refusesQuestion yX12_refusesQuestion, .initialized RX12, .methodLink RX12 42 yX12_refused, .instanceMethod yX12_refused, .selects RX12 yX12_refused yX12_refused]) (gd_app qsX12 (gd_app qfX12_refusesQuestion_nul_s0 qfX12_refused_nul)))
theorem gfX12_likeliest_nul_0 : GoodIn vfX12_likeliest_nul (wsV RX12 353 RX12 yX12_refusesQuestion vfX12_refusesQuestion_nul_s0) := goodIn_app (goodIn_r [.methodLink RX12 353 yX12_refusesQuestion, .instanceMethod yX12_refusesQuestion, .selects RX12 yX12_refusesQuestion yX12_refusesQuestion, .initialized RX12] [3, 4, 5, 6] rfl (by decide +kernel)) (goodIn_m (fun _ h => (List.mem_cons_of_mem _ (List.mem_append_right _ (List.mem_append_right _ (List.mem_append_left _ h))))) qfX12_refusesQuestion_nul_s0)
theorem gfX12_likeliest_nul_1 : GoodIn vfX12_likeliest_nul (wsV RX12 42 RX12 yX12_refused vfX12_refused_nul) := goodIn_app (goodIn_r [.methodLink RX12 42 yX12_refused, .instanceMethod yX12_refused, .selects RX12 yX12_refused yX12_refused, .initialized RX12] [7, 8, 9, 6] rfl (by decide +kernel)) (goodIn_m (fun _ h => (List.mem_cons_of_mem _ (List.mem_append_right _ (List.mem_append_right _ (List.mem_append_right _ h))))) qfX12_refused_nul)
set_option maxHeartbeats 2000000 in
set_option maxRecDepth 100000 in
theorem kfX12_likeliest_nul (l : Launch) (dC : Nat → ClassId) (dI : Nat → Nat → Nat) (a0 : Nat) (k1 : Int32) (k2 : Int32) (k3 : Int32) (m_t : TX12_t) (g5 : Value) (g6 : Value) (g7 : Value) (g8 : Value) (g9 : Value) (g10 : Value) (g11 : Value) (g12 : Value) (g13 : Value) (g14 : Value) (g15 : Value) (g16 : Value) (g17 : Value) (g18 : Value) (g19 : Value) (g20 : Value) (g21 : Value) (g22 : Value) (g23 : Value) (g24 : Value) (g25 : Value) (g26 : Value) (g27 : Value) (g28 : Value) (g29 : Value) (g30 : Value) (sz : Nat) (out : TX12_t) (h : f_X12_likeliest_nul k1 k2 k3 m_t = out) : KCi l yX12_likeliest vfX12_likeliest_nul ({ frames := 1, cells := 0, slots := 0, locals := 24 }) (dC, dI) [.ref a0, .int k1, .int k2, .int k3] sz ([(a0, .inr (9, [.int m_t.1, .int m_t.2.1, .int m_t.2.2, .null, g5, g6, g7, g8, g9, g10, g11, g12, g13, g14, g15, g16, g17, g18, g19, g20, g21, g22, g23, g24, g25, g26, g27, g28, g29, g30]))]) ([]) (fun (r : Int32) _ => r = (-1)) ([(a0, .inr (9, [.int out.1, .int out.2.1, .int out.2.2, .null, g5, g6, g7, g8, g9, g10, g11, g12, g13, g14, g15, g16, g17, g18, g19, g20, g21, g22, g23, g24, g25, g26, g27, g28, g29, g30]))]) 0 0 := by
  refine Met.ofW (cc := cX12_likeliest) (maxL := 10) (ret := (some .int)) (by decide) rfl ?_
  intro p e s m args below meth c s₁ B0 hml hv
  obtain ⟨rfl, hsz, hP, hK, hD0, hN⟩ := hv
  have hx := B0.exec
  have hb := B0.bytes
  have hr := B0.returns
  have hts := atoms_spec (ws := vfX12_likeliest_nul) B0.pre
  have hown : s.vm.findClass RX12 = some m.cls := findClass_of_methodNamed B0.named
  have hlocks := B0.notSynchronized
  subst hsz
  have hD := hD0.self (sz := s.heap.size)
  generalize hAe : va_A ([(a0, .inr (9, [.int m_t.1, .int m_t.2.1, .int m_t.2.2, .null, g5, g6, g7, g8, g9, g10, g11, g12, g13, g14, g15, g16, g17, g18, g19, g20, g21, g22, g23, g24, g25, g26, g27, g28, g29, g30]))]) s.heap.size = A at hD ⊢
  have hA : ∀ q : Nat, s.heap.size ≤ q → A q := fun q h => by rw [← hAe]; exact Or.inr h
  have hS : va_S A s.heap s.heap [] := va_S.rf
  have hP : va_P (dC, dI) vwCl ([(a0, .inr (9, [.int m_t.1, .int m_t.2.1, .int m_t.2.2, .null, g5, g6, g7, g8, g9, g10, g11, g12, g13, g14, g15, g16, g17, g18, g19, g20, g21, g22, g23, g24, g25, g26, g27, g28, g29, g30]))]) s.heap := hP
  have hl := lv_entry ([.ref a0, .int k1, .int k2, .int k3]) (n := 10) (Nat.le_of_ble_eq_true rfl)
  rw [lg_entry_eq]
  generalize (lg_sl ([.ref a0, .int k1, .int k2, .int k3]) ++ List.replicate (10 - (lg_sl ([.ref a0, .int k1, .int k2, .int k3])).length) Slot.unset).toArray = ls at hl ⊢
  have hl : lv_has ls 10 [(0, .ref a0), (1, .int k1), (2, .int k2), (3, .int k3)] := hl
  refine W_q (fun QQ hQQ => ?_)
  rw [f_X12_likeliest_nul] at h
  refine lv_aload_n hx hb (zat zrX12_likeliest_0_ok 0 rfl) rfl (lv_at hl 0 rfl) ?_
  refine lv_iconst (v := 0) hx hb (zat zrX12_likeliest_0_ok 1 rfl) (by decide) ?_
  refine va_put (D := (dC, dI)) (ci := 9) (v := .int 0) (ty := .int) (C := RX12) (T := TX12) (N := 30) hx hb hts ifX12_likeliest_nul_X12 tyX12 tyX12_ok nmX12 hown hK hP hD hS 0 rfl rfl 0 (by decide) (hts (.fieldLink RX12 36 "HookPierModel" "thrown" "I") (List.mem_of_getElem? (i := 1) rfl)) (fun _ h9 => h9) rfl (by decide +kernel) rfl rfl (Nat.le_of_ble_eq_true rfl) (zat zrX12_likeliest_0_ok 2 rfl) (fun H locs hP hD hS => ?_)
  obtain ⟨hP, hD⟩ := pd_mk ([(a0, .inr (9, [.int 0, .int m_t.2.1, .int m_t.2.2, .null, g5, g6, g7, g8, g9, g10, g11, g12, g13, g14, g15, g16, g17, g18, g19, g20, g21, g22, g23, g24, g25, g26, g27, g28, g29, g30]))]) hP hD
  refine lv_aload_n hx hb (zat zrX12_likeliest_0_ok 3 rfl) rfl (lv_at hl 0 rfl) ?_
  refine lv_aload_n hx hb (zat zrX12_likeliest_0_ok 4 rfl) rfl (lv_at hl 0 rfl) ?_
  refine va_get (D := (dC, dI)) (ci := 9) (v := .null) (C := RX12) (T := TX12) (N := 30) hx hb hts ifX12_likeliest_nul_X12 hown hK hP 0 rfl rfl 3 (by decide) (hts (.fieldLink RX12 299 "HookPierModel" "pier" "LHookPierModel$Pier;") (List.mem_of_getElem? (i := 2) rfl)) (fun _ h9 => h9) rfl (zat zrX12_likeliest_0_ok 5 rfl) ?_
  refine lv_ifnullN (tgt := 17) hx hb (zat zrX12_likeliest_0_ok 6 rfl) (by decide) ?_
  refine lv_iconst (v := 0) hx hb dX12_likeliest_17 (by decide) ?_
  refine lv_iload_n hx hb (zat zrX12_likeliest_0_ok 10 rfl) rfl (lv_at hl 1 rfl) ?_
  refine lv_iload_n hx hb (zat zrX12_likeliest_0_ok 11 rfl) rfl (lv_at hl 2 rfl) ?_
  refine lv_iload_n hx hb (zat zrX12_likeliest_0_ok 12 rfl) rfl (lv_at hl 3 rfl) ?_
  refine ck_i (wc := ([(a0, .inr (9, [.int 0, .int m_t.2.1, .int m_t.2.2, .null, g5, g6, g7, g8, g9, g10, g11, g12, g13, g14, g15, g16, g17, g18, g19, g20, g21, g22, g23, g24, g25, g26, g27, g28, g29, g30]))])) (wr := []) hP hD hK hS hA [0] [] rfl rfl (by decide) (by decide) (by decide) (fun hPc hDc => (va_runV (As := [.int 0, .int k1, .int k2, .int k3]) (rest := []) ⟨hx, hb, hml, hown, hts⟩ (kfX12_refusesQuestion_nul_s0 l dC dI a0 k1 k2 k3 (.int 0) (.int m_t.2.1) (.int m_t.2.2) (.null) (g5) (g6) (g7) (g8) (g9) (g10) (g11) (g12) (g13) (g14) (g15) (g16) (g17) (g18) (g19) (g20) (g21) (g22) (g23) (g24) (g25) (g26) (g27) (g28) (g29) (g30) H.size () rfl) (cwV 4 hts gfX12_likeliest_nul_0 rfl rfl rfl (by decide +kernel) ⟨(Nat.le_of_ble_eq_true rfl), (Nat.le_of_ble_eq_true rfl)⟩) (PV hPc (hK.sub (tys' := ([])) [] rfl) hDc hN 0 rfl rfl) rfl rfl hl.1 rfl (lv_room (Nat.le_of_ble_eq_true rfl)) (zat zrX12_likeliest_0_ok 13 rfl) ⟨(Nat.le_of_ble_eq_true rfl), (Nat.le_of_ble_eq_true rfl)⟩)) (fun r21 _ H locs hw hP hD _ hS => ?_)
  obtain rfl := hw
  obtain ⟨hP, hD⟩ := pd_mk ([(a0, .inr (9, [.int 0, .int m_t.2.1, .int m_t.2.2, .null, g5, g6, g7, g8, g9, g10, g11, g12, g13, g14, g15, g16, g17, g18, g19, g20, g21, g22, g23, g24, g25, g26, g27, g28, g29, g30]))]) hP hD
  refine lv_istore (lv' := [(4, .int 1), (0, .ref a0), (1, .int k1), (2, .int k2), (3, .int k3)]) hx hb (zat zrX12_likeliest_0_ok 14 rfl) hl (by decide) rfl (fun ls hl => ?_)
  refine lv_iload hx hb (zat zrX12_likeliest_0_ok 15 rfl) (lv_at hl 0 rfl) ?_
  refine lv_if_le (tgt := 38) hx hb (zat zrX12_likeliest_0_ok 16 rfl) (by decide) (fun c28 => absurd c28 (by decide)) (fun _ => ?_)
  refine lv_aload_n hx hb (zat zrX12_likeliest_0_ok 17 rfl) rfl (lv_at hl 1 rfl) ?_
  refine lv_iload hx hb (zat zrX12_likeliest_0_ok 18 rfl) (lv_at hl 0 rfl) ?_
  obtain ⟨o34, eo34⟩ : ∃ o, o = f_X12_refused_nul (1 : Int32) ((0 : Int32), m_t.2) := ⟨_, rfl⟩
  have h := nm_of h o34 eo34
  refine ck_i (wc := ([(a0, .inr (9, [.int 0, .int m_t.2.1, .int m_t.2.2, .null, g5, g6, g7, g8, g9, g10, g11, g12, g13, g14, g15, g16, g17, g18, g19, g20, g21, g22, g23, g24, g25, g26, g27, g28, g29, g30]))])) (wr := []) hP hD hK hS hA [0] [] rfl rfl (by decide) (by decide) (by decide) (fun hPc hDc => (va_runV (As := [.int 1]) (rest := []) ⟨hx, hb, hml, hown, hts⟩ (kfX12_refused_nul l dC dI a0 (1 : Int32) ((0 : Int32), m_t.2) (.null) (g5) (g6) (g7) (g8) (g9) (g10) (g11) (g12) (g13) (g14) (g15) (g16) (g17) (g18) (g19) (g20) (g21) (g22) (g23) (g24) (g25) (g26) (g27) (g28) (g29) (g30) H.size o34 eo34.symm) (cwV 1 hts gfX12_likeliest_nul_1 rfl rfl rfl (by decide +kernel) ⟨(Nat.le_of_ble_eq_true rfl), (Nat.le_of_ble_eq_true rfl)⟩) (PV hPc (hK.sub (tys' := ([])) [] rfl) hDc hN 0 rfl rfl) rfl rfl hl.1 rfl (lv_room (Nat.le_of_ble_eq_true rfl)) (zat zrX12_likeliest_0_ok 19 rfl) ⟨(Nat.le_of_ble_eq_true rfl), (Nat.le_of_ble_eq_true rfl)⟩)) (fun r34 _ H locs hw hP hD _ hS => ?_)
  obtain rfl := hw
  obtain ⟨hP, hD⟩ := pd_mk ([(a0, .inr (9, [.int o34.1, .int o34.2.1, .int o34.2.2, .null, g5, g6, g7, g8, g9, g10, g11, g12, g13, g14, g15, g16, g17, g18, g19, g20, g21, g22, g23, g24, g25, g26, g27, g28, g29, g30]))]) hP hD
  obtain rfl := h
  obtain ⟨hP9, hD9⟩ := pd_sub ([(a0, .inr (9, [.int o34.1, .int o34.2.1, .int o34.2.2, .null, g5, g6, g7, g8, g9, g10, g11, g12, g13, g14, g15, g16, g17, g18, g19, g20, g21, g22, g23, g24, g25, g26, g27, g28, g29, g30]))]) [0] hP hD (by decide) rfl
  have hK9 := hK.sub (tys' := []) [] rfl
  rw [hQQ]
  exact W.iret (v := (-1 : Int32)) hx hb hr (fun t ht hW => ⟨⟨(-1 : Int32), (), rfl, rfl, by rw [ht]; exact hP9, va_K.moved hW.alike hK9, hD9⟩, hS.F ht⟩) hS.2.2 (zat zrX12_likeliest_0_ok 20 rfl)
def vfX12_refusesSure_nul : List Cond := List.cons (.code yX12_refusesSure cX12_refusesSure 2 (some .int)) (apW [.methodLink RX12 320 yX12_isAnswer, .instanceMethod yX12_isAnswer, .selects RX12 yX12_isAnswer yX12_isAnswer, .initialized RX12] (vfX12_isAnswer_nul))
theorem qfX12_refusesSure_nul : Good vfX12_refusesSure_nul := gd_cons (by decide +kernel) (gd_app (gd_dec (by decide +kernel) : Good [.methodLink RX12 320 yX12_isAnswer, .instanceMethod yX12_isAnswer, .selects RX12 yX12_isAnswer yX12_isAnswer, .initialized RX12]) qfX12_isAnswer_nul)
theorem gfX12_refusesSure_nul_0 : GoodIn vfX12_refusesSure_nul (wsV RX12 320 RX12 yX12_isAnswer vfX12_isAnswer_nul) := goodIn_app (goodIn_r [.methodLink RX12 320 yX12_isAnswer, .instanceMethod yX12_isAnswer, .selects RX12 yX12_isAnswer yX12_isAnswer, .initialized RX12] [1, 2, 3, 4] rfl (by decide +kernel)) (goodIn_m (fun _ h => (List.mem_cons_of_mem _ (List.mem_append_right _ h))) qfX12_isAnswer_nul)
set_option maxHeartbeats 2000000 in
set_option maxRecDepth 100000 in
theorem kfX12_refusesSure_nul (l : Launch) (dC : Nat → ClassId) (dI : Nat → Nat → Nat) (a0 : Nat) (k1 : Int32) (g2 : Value) (g3 : Value) (g4 : Value) (g5 : Value) (g6 : Value) (g7 : Value) (g8 : Value) (g9 : Value) (g10 : Value) (g11 : Value) (g12 : Value) (g13 : Value) (g14 : Value) (g15 : Value) (g16 : Value) (g17 : Value) (g18 : Value) (g19 : Value) (g20 : Value) (g21 : Value) (g22 : Value) (g23 : Value) (g24 : Value) (g25 : Value) (g26 : Value) (g27 : Value) (g28 : Value) (g29 : Value) (g30 : Value) (sz : Nat) (out : Unit) (h : f_X12_refusesSure_nul k1 = out) : KDi l yX12_refusesSure vfX12_refusesSure_nul ({ frames := 1, cells := 0, slots := 0, locals := 21 }) (dC, dI) [.ref a0, .int k1] sz ([(a0, .inr (9, [g2, g3, g4, .null, g5, g6, g7, g8, g9, g10, g11, g12, g13, g14, g15, g16, g17, g18, g19, g20, g21, g22, g23, g24, g25, g26, g27, g28, g29, g30]))]) ([]) (fun (r : Int32) _ => r = 1) 0 0 := by
  refine Met.ofW (cc := cX12_refusesSure) (maxL := 2) (ret := (some .int)) (by decide) rfl ?_
  intro p e s m args below meth c s₁ B0 hml hv
  obtain ⟨rfl, hsz, hP, hK, hD0, hN⟩ := hv
  have hx := B0.exec
  have hb := B0.bytes
  have hr := B0.returns
  have hts := atoms_spec (ws := vfX12_refusesSure_nul) B0.pre
  have hown : s.vm.findClass RX12 = some m.cls := findClass_of_methodNamed B0.named
  have hlocks := B0.notSynchronized
  subst hsz
  have hD := hD0.self (sz := s.heap.size)
  generalize hAe : va_A ([(a0, .inr (9, [g2, g3, g4, .null, g5, g6, g7, g8, g9, g10, g11, g12, g13, g14, g15, g16, g17, g18, g19, g20, g21, g22, g23, g24, g25, g26, g27, g28, g29, g30]))]) s.heap.size = A at hD ⊢
  have hA : ∀ q : Nat, s.heap.size ≤ q → A q := fun q h => by rw [← hAe]; exact Or.inr h
  have hS : va_S A s.heap s.heap [] := va_S.rf
  have hP : va_P (dC, dI) vwCl ([(a0, .inr (9, [g2, g3, g4, .null, g5, g6, g7, g8, g9, g10, g11, g12, g13, g14, g15, g16, g17, g18, g19, g20, g21, g22, g23, g24, g25, g26, g27, g28, g29, g30]))]) s.heap := hP
  have hl := lv_entry ([.ref a0, .int k1]) (n := 2) (Nat.le_of_ble_eq_true rfl)
  rw [lg_entry_eq]
  generalize (lg_sl ([.ref a0, .int k1]) ++ List.replicate (2 - (lg_sl ([.ref a0, .int k1])).length) Slot.unset).toArray = ls at hl ⊢
  have hl : lv_has ls 2 [(0, .ref a0), (1, .int k1)] := hl
  refine W_q (fun QQ hQQ => ?_)
  rw [f_X12_refusesSure_nul] at h
  refine lv_aload_n hx hb (zat zrX12_refusesSure_0_ok 0 rfl) rfl (lv_at hl 0 rfl) ?_
  refine lv_iload_n hx hb (zat zrX12_refusesSure_0_ok 1 rfl) rfl (lv_at hl 1 rfl) ?_
  refine ck_i (wc := ([(a0, .inr (9, [g2, g3, g4, .null, g5, g6, g7, g8, g9, g10, g11, g12, g13, g14, g15, g16, g17, g18, g19, g20, g21, g22, g23, g24, g25, g26, g27, g28, g29, g30]))])) (wr := []) hP hD hK hS hA [0] [] rfl rfl (by decide) (by decide) (by decide) (fun hPc hDc => (va_runV (As := [.int k1]) (rest := []) ⟨hx, hb, hml, hown, hts⟩ (kfX12_isAnswer_nul l dC dI a0 k1 (g2) (g3) (g4) (g5) (g6) (g7) (g8) (g9) (g10) (g11) (g12) (g13) (g14) (g15) (g16) (g17) (g18) (g19) (g20) (g21) (g22) (g23) (g24) (g25) (g26) (g27) (g28) (g29) (g30) s.heap.size () rfl) (cwV 1 hts gfX12_refusesSure_nul_0 rfl rfl rfl (by decide +kernel) ⟨(Nat.le_of_ble_eq_true rfl), (Nat.le_of_ble_eq_true rfl)⟩) (PV hPc (hK.sub (tys' := ([])) [] rfl) hDc hN 0 rfl rfl) rfl rfl hl.1 rfl (lv_room (Nat.le_of_ble_eq_true rfl)) (zat zrX12_refusesSure_0_ok 2 rfl) ⟨(Nat.le_of_ble_eq_true rfl), (Nat.le_of_ble_eq_true rfl)⟩)) (fun r2 _ H locs hw hP hD _ hS => ?_)
  obtain ⟨hw, br2⟩ := hw
  obtain rfl := hw
  obtain ⟨hP, hD⟩ := pd_mk ([(a0, .inr (9, [g2, g3, g4, .null, g5, g6, g7, g8, g9, g10, g11, g12, g13, g14, g15, g16, g17, g18, g19, g20, g21, g22, g23, g24, g25, g26, g27, g28, g29, g30]))]) hP hD
  refine lv_if_ne (tgt := 12) hx hb (zat zrX12_refusesSure_0_ok 3 rfl) (by decide) (fun c5 => absurd c5 (by decide)) (fun _ => ?_)
  refine lv_iconst (v := 1) hx hb (zat zrX12_refusesSure_0_ok 4 rfl) (by decide) ?_
  refine lv_goto (tgt := 28) hx hb (zat zrX12_refusesSure_0_ok 5 rfl) (by decide) ?_
  obtain ⟨hP9, hD9⟩ := pd_sub ([(a0, .inr (9, [g2, g3, g4, .null, g5, g6, g7, g8, g9, g10, g11, g12, g13, g14, g15, g16, g17, g18, g19, g20, g21, g22, g23, g24, g25, g26, g27, g28, g29, g30]))]) [0] hP hD (by decide) rfl
  have hK9 := hK.sub (tys' := []) [] rfl
  rw [hQQ]
  exact W.iret (v := (1 : Int32)) hx hb hr (fun t ht hW => ⟨⟨(1 : Int32), (), rfl, rfl, by rw [ht]; exact hP9, va_K.moved hW.alike hK9, hD9⟩, hS.F ht⟩) hS.2.2 (zat zrX12_refusesSure_0_ok 16 rfl)
def vfX12_surest_nul : List Cond := List.cons (.code yX12_surest cX12_surest 4 (some .int)) (apW [.fieldLink RX12 36 "HookPierModel" "thrown" "I", .methodLink RX12 377 yX12_refusesSure, .instanceMethod yX12_refusesSure, .selects RX12 yX12_refusesSure yX12_refusesSure, .initialized RX12, .methodLink RX12 42 yX12_refused, .instanceMethod yX12_refused, .selects RX12 yX12_refused yX12_refused] (apW wsX120 (apW vfX12_refusesSure_nul (vfX12_refused_nul))))
theorem ifX12_surest_nul_X12 : ∀ w ∈ wsX120, w ∈ vfX12_surest_nul := fun _ h => (List.mem_cons_of_mem _ (List.mem_append_right _ (List.mem_append_left _ h)))
theorem qfX12_surest_nul : Good vfX12_surest_nul := gd_cons (by decide +kernel) (gd_app (gd_dec (by decide +kernel) : Good [.fieldLink RX12 36 "HookPierModel" "thrown" "I", .methodLink RX12 377 yX12_refusesSure, .instanceMethod yX12_refusesSure, .selects RX12 yX12_refusesSure yX12_refusesSure, .initialized RX12, .methodLink RX12 42 yX12_refused, .instanceMethod yX12_refused, .selects RX12 yX12_refused yX12_refused]) (gd_app qsX12 (gd_app qfX12_refusesSure_nul qfX12_refused_nul)))
theorem gfX12_surest_nul_0 : GoodIn vfX12_surest_nul (wsV RX12 377 RX12 yX12_refusesSure vfX12_refusesSure_nul) := goodIn_app (goodIn_r [.methodLink RX12 377 yX12_refusesSure, .instanceMethod yX12_refusesSure, .selects RX12 yX12_refusesSure yX12_refusesSure, .initialized RX12] [2, 3, 4, 5] rfl (by decide +kernel)) (goodIn_m (fun _ h => (List.mem_cons_of_mem _ (List.mem_append_right _ (List.mem_append_right _ (List.mem_append_left _ h))))) qfX12_refusesSure_nul)
theorem gfX12_surest_nul_1 : GoodIn vfX12_surest_nul (wsV RX12 42 RX12 yX12_refused vfX12_refused_nul) := goodIn_app (goodIn_r [.methodLink RX12 42 yX12_refused, .instanceMethod yX12_refused, .selects RX12 yX12_refused yX12_refused, .initialized RX12] [6, 7, 8, 5] rfl (by decide +kernel)) (goodIn_m (fun _ h => (List.mem_cons_of_mem _ (List.mem_append_right _ (List.mem_append_right _ (List.mem_append_right _ h))))) qfX12_refused_nul)
set_option maxHeartbeats 2000000 in
set_option maxRecDepth 100000 in
theorem kfX12_surest_nul (l : Launch) (dC : Nat → ClassId) (dI : Nat → Nat → Nat) (a0 : Nat) (k1 : Int32) (m_t : TX12_t) (g3 : Value) (g4 : Value) (g5 : Value) (g6 : Value) (g7 : Value) (g8 : Value) (g9 : Value) (g10 : Value) (g11 : Value) (g12 : Value) (g13 : Value) (g14 : Value) (g15 : Value) (g16 : Value) (g17 : Value) (g18 : Value) (g19 : Value) (g20 : Value) (g21 : Value) (g22 : Value) (g23 : Value) (g24 : Value) (g25 : Value) (g26 : Value) (g27 : Value) (g28 : Value) (sz : Nat) (out : TX12_t) (h : f_X12_surest_nul k1 m_t = out) : KCi l yX12_surest vfX12_surest_nul ({ frames := 2, cells := 0, slots := 0, locals := 42 }) (dC, dI) [.ref a0, .int k1] sz ([(a0, .inr (9, [.int m_t.1, .int m_t.2.1, .int m_t.2.2, .null, g3, g4, g5, g6, g7, g8, g9, g10, g11, g12, g13, g14, g15, g16, g17, g18, g19, g20, g21, g22, g23, g24, g25, g26, g27, g28]))]) ([]) (fun (r : Int32) _ => r = (-1)) ([(a0, .inr (9, [.int out.1, .int out.2.1, .int out.2.2, .null, g3, g4, g5, g6, g7, g8, g9, g10, g11, g12, g13, g14, g15, g16, g17, g18, g19, g20, g21, g22, g23, g24, g25, g26, g27, g28]))]) 0 0 := by
  refine Met.ofW (cc := cX12_surest) (maxL := 4) (ret := (some .int)) (by decide) rfl ?_
  intro p e s m args below meth c s₁ B0 hml hv
  obtain ⟨rfl, hsz, hP, hK, hD0, hN⟩ := hv
  have hx := B0.exec
  have hb := B0.bytes
  have hr := B0.returns
  have hts := atoms_spec (ws := vfX12_surest_nul) B0.pre
  have hown : s.vm.findClass RX12 = some m.cls := findClass_of_methodNamed B0.named
  have hlocks := B0.notSynchronized
  subst hsz
  have hD := hD0.self (sz := s.heap.size)
  generalize hAe : va_A ([(a0, .inr (9, [.int m_t.1, .int m_t.2.1, .int m_t.2.2, .null, g3, g4, g5, g6, g7, g8, g9, g10, g11, g12, g13, g14, g15, g16, g17, g18, g19, g20, g21, g22, g23, g24, g25, g26, g27, g28]))]) s.heap.size = A at hD ⊢
  have hA : ∀ q : Nat, s.heap.size ≤ q → A q := fun q h => by rw [← hAe]; exact Or.inr h
  have hS : va_S A s.heap s.heap [] := va_S.rf
  have hP : va_P (dC, dI) vwCl ([(a0, .inr (9, [.int m_t.1, .int m_t.2.1, .int m_t.2.2, .null, g3, g4, g5, g6, g7, g8, g9, g10, g11, g12, g13, g14, g15, g16, g17, g18, g19, g20, g21, g22, g23, g24, g25, g26, g27, g28]))]) s.heap := hP
  have hl := lv_entry ([.ref a0, .int k1]) (n := 4) (Nat.le_of_ble_eq_true rfl)
  rw [lg_entry_eq]
  generalize (lg_sl ([.ref a0, .int k1]) ++ List.replicate (4 - (lg_sl ([.ref a0, .int k1])).length) Slot.unset).toArray = ls at hl ⊢
  have hl : lv_has ls 4 [(0, .ref a0), (1, .int k1)] := hl
  refine W_q (fun QQ hQQ => ?_)
  rw [f_X12_surest_nul] at h
  refine lv_aload_n hx hb (zat zrX12_surest_0_ok 0 rfl) rfl (lv_at hl 0 rfl) ?_
  refine lv_iconst (v := 0) hx hb (zat zrX12_surest_0_ok 1 rfl) (by decide) ?_
  refine va_put (D := (dC, dI)) (ci := 9) (v := .int 0) (ty := .int) (C := RX12) (T := TX12) (N := 30) hx hb hts ifX12_surest_nul_X12 tyX12 tyX12_ok nmX12 hown hK hP hD hS 0 rfl rfl 0 (by decide) (hts (.fieldLink RX12 36 "HookPierModel" "thrown" "I") (List.mem_of_getElem? (i := 1) rfl)) (fun _ h9 => h9) rfl (by decide +kernel) rfl rfl (Nat.le_of_ble_eq_true rfl) (zat zrX12_surest_0_ok 2 rfl) (fun H locs hP hD hS => ?_)
  obtain ⟨hP, hD⟩ := pd_mk ([(a0, .inr (9, [.int 0, .int m_t.2.1, .int m_t.2.2, .null, g3, g4, g5, g6, g7, g8, g9, g10, g11, g12, g13, g14, g15, g16, g17, g18, g19, g20, g21, g22, g23, g24, g25, g26, g27, g28]))]) hP hD
  refine lv_aload_n hx hb (zat zrX12_surest_0_ok 3 rfl) rfl (lv_at hl 0 rfl) ?_
  refine lv_iload_n hx hb (zat zrX12_surest_0_ok 4 rfl) rfl (lv_at hl 1 rfl) ?_
  refine ck_i (wc := ([(a0, .inr (9, [.int 0, .int m_t.2.1, .int m_t.2.2, .null, g3, g4, g5, g6, g7, g8, g9, g10, g11, g12, g13, g14, g15, g16, g17, g18, g19, g20, g21, g22, g23, g24, g25, g26, g27, g28]))])) (wr := []) hP hD hK hS hA [0] [] rfl rfl (by decide) (by decide) (by decide) (fun hPc hDc => (va_runV (As := [.int k1]) (rest := []) ⟨hx, hb, hml, hown, hts⟩ (kfX12_refusesSure_nul l dC dI a0 k1 (.int 0) (.int m_t.2.1) (.int m_t.2.2) (g3) (g4) (g5) (g6) (g7) (g8) (g9) (g10) (g11) (g12) (g13) (g14) (g15) (g16) (g17) (g18) (g19) (g20) (g21) (g22) (g23) (g24) (g25) (g26) (g27) (g28) H.size () rfl) (cwV 1 hts gfX12_surest_nul_0 rfl rfl rfl (by decide +kernel) ⟨(Nat.le_of_ble_eq_true rfl), (Nat.le_of_ble_eq_true rfl)⟩) (PV hPc (hK.sub (tys' := ([])) [] rfl) hDc hN 0 rfl rfl) rfl rfl hl.1 rfl (lv_room (Nat.le_of_ble_eq_true rfl)) (zat zrX12_surest_0_ok 5 rfl) ⟨(Nat.le_of_ble_eq_true rfl), (Nat.le_of_ble_eq_true rfl)⟩)) (fun r7 _ H locs hw hP hD _ hS => ?_)
  obtain rfl := hw
  obtain ⟨hP, hD⟩ := pd_mk ([(a0, .inr (9, [.int 0, .int m_t.2.1, .int m_t.2.2, .null, g3, g4, g5, g6, g7, g8, g9, g10, g11, g12, g13, g14, g15, g16, g17, g18, g19, g20, g21, g22, g23, g24, g25, g26, g27, g28]))]) hP hD
  refine lv_istore_n (lv' := [(2, .int 1), (0, .ref a0), (1, .int k1)]) hx hb (zat zrX12_surest_0_ok 6 rfl) rfl hl (by decide) rfl (fun ls hl => ?_)
  refine lv_iload_n hx hb (zat zrX12_surest_0_ok 7 rfl) rfl (lv_at hl 0 rfl) ?_
  refine lv_if_le (tgt := 21) hx hb (zat zrX12_surest_0_ok 8 rfl) (by decide) (fun c12 => absurd c12 (by decide)) (fun _ => ?_)
  refine lv_aload_n hx hb (zat zrX12_surest_0_ok 9 rfl) rfl (lv_at hl 1 rfl) ?_
  refine lv_iload_n hx hb (zat zrX12_surest_0_ok 10 rfl) rfl (lv_at hl 0 rfl) ?_
  obtain ⟨o17, eo17⟩ : ∃ o, o = f_X12_refused_nul (1 : Int32) ((0 : Int32), m_t.2) := ⟨_, rfl⟩
  have h := nm_of h o17 eo17
  refine ck_i (wc := ([(a0, .inr (9, [.int 0, .int m_t.2.1, .int m_t.2.2, .null, g3, g4, g5, g6, g7, g8, g9, g10, g11, g12, g13, g14, g15, g16, g17, g18, g19, g20, g21, g22, g23, g24, g25, g26, g27, g28]))])) (wr := []) hP hD hK hS hA [0] [] rfl rfl (by decide) (by decide) (by decide) (fun hPc hDc => (va_runV (As := [.int 1]) (rest := []) ⟨hx, hb, hml, hown, hts⟩ (kfX12_refused_nul l dC dI a0 (1 : Int32) ((0 : Int32), m_t.2) (.null) (g3) (g4) (g5) (g6) (g7) (g8) (g9) (g10) (g11) (g12) (g13) (g14) (g15) (g16) (g17) (g18) (g19) (g20) (g21) (g22) (g23) (g24) (g25) (g26) (g27) (g28) H.size o17 eo17.symm) (cwV 1 hts gfX12_surest_nul_1 rfl rfl rfl (by decide +kernel) ⟨(Nat.le_of_ble_eq_true rfl), (Nat.le_of_ble_eq_true rfl)⟩) (PV hPc (hK.sub (tys' := ([])) [] rfl) hDc hN 0 rfl rfl) rfl rfl hl.1 rfl (lv_room (Nat.le_of_ble_eq_true rfl)) (zat zrX12_surest_0_ok 11 rfl) ⟨(Nat.le_of_ble_eq_true rfl), (Nat.le_of_ble_eq_true rfl)⟩)) (fun r17 _ H locs hw hP hD _ hS => ?_)
  obtain rfl := hw
  obtain ⟨hP, hD⟩ := pd_mk ([(a0, .inr (9, [.int o17.1, .int o17.2.1, .int o17.2.2, .null, g3, g4, g5, g6, g7, g8, g9, g10, g11, g12, g13, g14, g15, g16, g17, g18, g19, g20, g21, g22, g23, g24, g25, g26, g27, g28]))]) hP hD
  obtain rfl := h
  obtain ⟨hP9, hD9⟩ := pd_sub ([(a0, .inr (9, [.int o17.1, .int o17.2.1, .int o17.2.2, .null, g3, g4, g5, g6, g7, g8, g9, g10, g11, g12, g13, g14, g15, g16, g17, g18, g19, g20, g21, g22, g23, g24, g25, g26, g27, g28]))]) [0] hP hD (by decide) rfl
  have hK9 := hK.sub (tys' := []) [] rfl
  rw [hQQ]
  exact W.iret (v := (-1 : Int32)) hx hb hr (fun t ht hW => ⟨⟨(-1 : Int32), (), rfl, rfl, by rw [ht]; exact hP9, va_K.moved hW.alike hK9, hD9⟩, hS.F ht⟩) hS.2.2 (zat zrX12_surest_0_ok 12 rfl)
def vfX12_surestOdds_nul : List Cond := List.cons (.code yX12_surestOdds cX12_surestOdds 5 (some .long)) (apW [.fieldLink RX12 36 "HookPierModel" "thrown" "I", .methodLink RX12 377 yX12_refusesSure, .instanceMethod yX12_refusesSure, .selects RX12 yX12_refusesSure yX12_refusesSure, .initialized RX12, .methodLink RX12 42 yX12_refused, .instanceMethod yX12_refused, .selects RX12 yX12_refused yX12_refused] (apW wsX120 (apW vfX12_refusesSure_nul (vfX12_refused_nul))))
theorem ifX12_surestOdds_nul_X12 : ∀ w ∈ wsX120, w ∈ vfX12_surestOdds_nul := fun _ h => (List.mem_cons_of_mem _ (List.mem_append_right _ (List.mem_append_left _ h)))
theorem qfX12_surestOdds_nul : Good vfX12_surestOdds_nul := gd_cons (by decide +kernel) (gd_app (gd_dec (by decide +kernel) : Good [.fieldLink RX12 36 "HookPierModel" "thrown" "I", .methodLink RX12 377 yX12_refusesSure, .instanceMethod yX12_refusesSure, .selects RX12 yX12_refusesSure yX12_refusesSure, .initialized RX12, .methodLink RX12 42 yX12_refused, .instanceMethod yX12_refused, .selects RX12 yX12_refused yX12_refused]) (gd_app qsX12 (gd_app qfX12_refusesSure_nul qfX12_refused_nul)))
theorem gfX12_surestOdds_nul_0 : GoodIn vfX12_surestOdds_nul (wsV RX12 377 RX12 yX12_refusesSure vfX12_refusesSure_nul) := goodIn_app (goodIn_r [.methodLink RX12 377 yX12_refusesSure, .instanceMethod yX12_refusesSure, .selects RX12 yX12_refusesSure yX12_refusesSure, .initialized RX12] [2, 3, 4, 5] rfl (by decide +kernel)) (goodIn_m (fun _ h => (List.mem_cons_of_mem _ (List.mem_append_right _ (List.mem_append_right _ (List.mem_append_left _ h))))) qfX12_refusesSure_nul)
theorem gfX12_surestOdds_nul_1 : GoodIn vfX12_surestOdds_nul (wsV RX12 42 RX12 yX12_refused vfX12_refused_nul) := goodIn_app (goodIn_r [.methodLink RX12 42 yX12_refused, .instanceMethod yX12_refused, .selects RX12 yX12_refused yX12_refused, .initialized RX12] [6, 7, 8, 5] rfl (by decide +kernel)) (goodIn_m (fun _ h => (List.mem_cons_of_mem _ (List.mem_append_right _ (List.mem_append_right _ (List.mem_append_right _ h))))) qfX12_refused_nul)
set_option maxHeartbeats 2000000 in
set_option maxRecDepth 100000 in
theorem kfX12_surestOdds_nul (l : Launch) (dC : Nat → ClassId) (dI : Nat → Nat → Nat) (a0 : Nat) (k1 : Int32) (k2 : Int32) (m_t : TX12_t) (g4 : Value) (g5 : Value) (g6 : Value) (g7 : Value) (g8 : Value) (g9 : Value) (g10 : Value) (g11 : Value) (g12 : Value) (g13 : Value) (g14 : Value) (g15 : Value) (g16 : Value) (g17 : Value) (g18 : Value) (g19 : Value) (g20 : Value) (g21 : Value) (g22 : Value) (g23 : Value) (g24 : Value) (g25 : Value) (g26 : Value) (g27 : Value) (g28 : Value) (g29 : Value) (sz : Nat) (out : TX12_t) (h : f_X12_surestOdds_nul k1 k2 m_t = out) : KCl l yX12_surestOdds vfX12_surestOdds_nul ({ frames := 2, cells := 0, slots := 0, locals := 42 }) (dC, dI) [.ref a0, .int k1, .int k2] sz ([(a0, .inr (9, [.int m_t.1, .int m_t.2.1, .int m_t.2.2, .null, g4, g5, g6, g7, g8, g9, g10, g11, g12, g13, g14, g15, g16, g17, g18, g19, g20, g21, g22, g23, g24, g25, g26, g27, g28, g29]))]) ([]) (fun (r : Int64) _ => r = (-1)) ([(a0, .inr (9, [.int out.1, .int out.2.1, .int out.2.2, .null, g4, g5, g6, g7, g8, g9, g10, g11, g12, g13, g14, g15, g16, g17, g18, g19, g20, g21, g22, g23, g24, g25, g26, g27, g28, g29]))]) 0 0 := by
  refine Met.ofW (cc := cX12_surestOdds) (maxL := 5) (ret := (some .long)) (by decide) rfl ?_
  intro p e s m args below meth c s₁ B0 hml hv
  obtain ⟨rfl, hsz, hP, hK, hD0, hN⟩ := hv
  have hx := B0.exec
  have hb := B0.bytes
  have hr := B0.returns
  have hts := atoms_spec (ws := vfX12_surestOdds_nul) B0.pre
  have hown : s.vm.findClass RX12 = some m.cls := findClass_of_methodNamed B0.named
  have hlocks := B0.notSynchronized
  subst hsz
  have hD := hD0.self (sz := s.heap.size)
  generalize hAe : va_A ([(a0, .inr (9, [.int m_t.1, .int m_t.2.1, .int m_t.2.2, .null, g4, g5, g6, g7, g8, g9, g10, g11, g12, g13, g14, g15, g16, g17, g18, g19, g20, g21, g22, g23, g24, g25, g26, g27, g28, g29]))]) s.heap.size = A at hD ⊢
  have hA : ∀ q : Nat, s.heap.size ≤ q → A q := fun q h => by rw [← hAe]; exact Or.inr h
  have hS : va_S A s.heap s.heap [] := va_S.rf
  have hP : va_P (dC, dI) vwCl ([(a0, .inr (9, [.int m_t.1, .int m_t.2.1, .int m_t.2.2, .null, g4, g5, g6, g7, g8, g9, g10, g11, g12, g13, g14, g15, g16, g17, g18, g19, g20, g21, g22, g23, g24, g25, g26, g27, g28, g29]))]) s.heap := hP
  have hl := lv_entry ([.ref a0, .int k1, .int k2]) (n := 5) (Nat.le_of_ble_eq_true rfl)
  rw [lg_entry_eq]
  generalize (lg_sl ([.ref a0, .int k1, .int k2]) ++ List.replicate (5 - (lg_sl ([.ref a0, .int k1, .int k2])).length) Slot.unset).toArray = ls at hl ⊢
  have hl : lv_has ls 5 [(0, .ref a0), (1, .int k1), (2, .int k2)] := hl
  refine W_q (fun QQ hQQ => ?_)
  rw [f_X12_surestOdds_nul] at h
  refine lv_aload_n hx hb (zat zrX12_surestOdds_0_ok 0 rfl) rfl (lv_at hl 0 rfl) ?_
  refine lv_iconst (v := 0) hx hb (zat zrX12_surestOdds_0_ok 1 rfl) (by decide) ?_
  refine va_put (D := (dC, dI)) (ci := 9) (v := .int 0) (ty := .int) (C := RX12) (T := TX12) (N := 30) hx hb hts ifX12_surestOdds_nul_X12 tyX12 tyX12_ok nmX12 hown hK hP hD hS 0 rfl rfl 0 (by decide) (hts (.fieldLink RX12 36 "HookPierModel" "thrown" "I") (List.mem_of_getElem? (i := 1) rfl)) (fun _ h9 => h9) rfl (by decide +kernel) rfl rfl (Nat.le_of_ble_eq_true rfl) (zat zrX12_surestOdds_0_ok 2 rfl) (fun H locs hP hD hS => ?_)
  obtain ⟨hP, hD⟩ := pd_mk ([(a0, .inr (9, [.int 0, .int m_t.2.1, .int m_t.2.2, .null, g4, g5, g6, g7, g8, g9, g10, g11, g12, g13, g14, g15, g16, g17, g18, g19, g20, g21, g22, g23, g24, g25, g26, g27, g28, g29]))]) hP hD
  refine lv_aload_n hx hb (zat zrX12_surestOdds_0_ok 3 rfl) rfl (lv_at hl 0 rfl) ?_
  refine lv_iload_n hx hb (zat zrX12_surestOdds_0_ok 4 rfl) rfl (lv_at hl 1 rfl) ?_
  refine ck_i (wc := ([(a0, .inr (9, [.int 0, .int m_t.2.1, .int m_t.2.2, .null, g4, g5, g6, g7, g8, g9, g10, g11, g12, g13, g14, g15, g16, g17, g18, g19, g20, g21, g22, g23, g24, g25, g26, g27, g28, g29]))])) (wr := []) hP hD hK hS hA [0] [] rfl rfl (by decide) (by decide) (by decide) (fun hPc hDc => (va_runV (As := [.int k1]) (rest := []) ⟨hx, hb, hml, hown, hts⟩ (kfX12_refusesSure_nul l dC dI a0 k1 (.int 0) (.int m_t.2.1) (.int m_t.2.2) (g4) (g5) (g6) (g7) (g8) (g9) (g10) (g11) (g12) (g13) (g14) (g15) (g16) (g17) (g18) (g19) (g20) (g21) (g22) (g23) (g24) (g25) (g26) (g27) (g28) (g29) H.size () rfl) (cwV 1 hts gfX12_surestOdds_nul_0 rfl rfl rfl (by decide +kernel) ⟨(Nat.le_of_ble_eq_true rfl), (Nat.le_of_ble_eq_true rfl)⟩) (PV hPc (hK.sub (tys' := ([])) [] rfl) hDc hN 0 rfl rfl) rfl rfl hl.1 rfl (lv_room (Nat.le_of_ble_eq_true rfl)) (zat zrX12_surestOdds_0_ok 5 rfl) ⟨(Nat.le_of_ble_eq_true rfl), (Nat.le_of_ble_eq_true rfl)⟩)) (fun r7 _ H locs hw hP hD _ hS => ?_)
  obtain rfl := hw
  obtain ⟨hP, hD⟩ := pd_mk ([(a0, .inr (9, [.int 0, .int m_t.2.1, .int m_t.2.2, .null, g4, g5, g6, g7, g8, g9, g10, g11, g12, g13, g14, g15, g16, g17, g18, g19, g20, g21, g22, g23, g24, g25, g26, g27, g28, g29]))]) hP hD
  refine lv_istore_n (lv' := [(3, .int 1), (0, .ref a0), (1, .int k1), (2, .int k2)]) hx hb (zat zrX12_surestOdds_0_ok 6 rfl) rfl hl (by decide) rfl (fun ls hl => ?_)
  refine lv_iload_n hx hb (zat zrX12_surestOdds_0_ok 7 rfl) rfl (lv_at hl 0 rfl) ?_
  refine lv_if_le (tgt := 22) hx hb (zat zrX12_surestOdds_0_ok 8 rfl) (by decide) (fun c12 => absurd c12 (by decide)) (fun _ => ?_)
  refine lv_aload_n hx hb (zat zrX12_surestOdds_0_ok 9 rfl) rfl (lv_at hl 1 rfl) ?_
  refine lv_iload_n hx hb (zat zrX12_surestOdds_0_ok 10 rfl) rfl (lv_at hl 0 rfl) ?_
  obtain ⟨o17, eo17⟩ : ∃ o, o = f_X12_refused_nul (1 : Int32) ((0 : Int32), m_t.2) := ⟨_, rfl⟩
  have h := nm_of h o17 eo17
  refine ck_i (wc := ([(a0, .inr (9, [.int 0, .int m_t.2.1, .int m_t.2.2, .null, g4, g5, g6, g7, g8, g9, g10, g11, g12, g13, g14, g15, g16, g17, g18, g19, g20, g21, g22, g23, g24, g25, g26, g27, g28, g29]))])) (wr := []) hP hD hK hS hA [0] [] rfl rfl (by decide) (by decide) (by decide) (fun hPc hDc => (va_runV (As := [.int 1]) (rest := []) ⟨hx, hb, hml, hown, hts⟩ (kfX12_refused_nul l dC dI a0 (1 : Int32) ((0 : Int32), m_t.2) (.null) (g4) (g5) (g6) (g7) (g8) (g9) (g10) (g11) (g12) (g13) (g14) (g15) (g16) (g17) (g18) (g19) (g20) (g21) (g22) (g23) (g24) (g25) (g26) (g27) (g28) (g29) H.size o17 eo17.symm) (cwV 1 hts gfX12_surestOdds_nul_1 rfl rfl rfl (by decide +kernel) ⟨(Nat.le_of_ble_eq_true rfl), (Nat.le_of_ble_eq_true rfl)⟩) (PV hPc (hK.sub (tys' := ([])) [] rfl) hDc hN 0 rfl rfl) rfl rfl hl.1 rfl (lv_room (Nat.le_of_ble_eq_true rfl)) (zat zrX12_surestOdds_0_ok 11 rfl) ⟨(Nat.le_of_ble_eq_true rfl), (Nat.le_of_ble_eq_true rfl)⟩)) (fun r17 _ H locs hw hP hD _ hS => ?_)
  obtain rfl := hw
  obtain ⟨hP, hD⟩ := pd_mk ([(a0, .inr (9, [.int o17.1, .int o17.2.1, .int o17.2.2, .null, g4, g5, g6, g7, g8, g9, g10, g11, g12, g13, g14, g15, g16, g17, g18, g19, g20, g21, g22, g23, g24, g25, g26, g27, g28, g29]))]) hP hD
  refine lv_i2l (v := (-1)) hx hb (zat zrX12_surestOdds_0_ok 12 rfl) (by decide) ?_
  obtain rfl := h
  obtain ⟨hP9, hD9⟩ := pd_sub ([(a0, .inr (9, [.int o17.1, .int o17.2.1, .int o17.2.2, .null, g4, g5, g6, g7, g8, g9, g10, g11, g12, g13, g14, g15, g16, g17, g18, g19, g20, g21, g22, g23, g24, g25, g26, g27, g28, g29]))]) [0] hP hD (by decide) rfl
  have hK9 := hK.sub (tys' := []) [] rfl
  rw [hQQ]
  exact W.lret (v := (-1 : Int64)) hx hb hr (fun t ht hW => ⟨⟨(-1 : Int64), (), rfl, rfl, by rw [ht]; exact hP9, va_K.moved hW.alike hK9, hD9⟩, hS.F ht⟩) hS.2.2 (zat zrX12_surestOdds_0_ok 13 rfl)
noncomputable def zrX12_best_0b : List ZR := zc 0 false (.nop) 12 (zc 12 true (.aload_n 0) 1 (zc 13 true (.iconst 1) 1 (zc 14 true (.invokevirtual 42) 3 (zc 17 true (.ireturn) 1 ([])))))
theorem zrX12_best_0b_ok : zck 0 ((zby cX12_best).drop 0) zrX12_best_0b = true := by decide +kernel
def vfX12_best_nul : List Cond := List.cons (.code yX12_best cX12_best 5 (some .int)) (apW [.fieldLink RX12 36 "HookPierModel" "thrown" "I", .fieldLink RX12 299 "HookPierModel" "pier" "LHookPierModel$Pier;", .methodLink RX12 42 yX12_refused, .instanceMethod yX12_refused, .selects RX12 yX12_refused yX12_refused, .initialized RX12] (apW wsX120 (vfX12_refused_nul)))
theorem ifX12_best_nul_X12 : ∀ w ∈ wsX120, w ∈ vfX12_best_nul := fun _ h => (List.mem_cons_of_mem _ (List.mem_append_right _ (List.mem_append_left _ h)))
theorem qfX12_best_nul : Good vfX12_best_nul := gd_cons (by decide +kernel) (gd_app (gd_dec (by decide +kernel) : Good [.fieldLink RX12 36 "HookPierModel" "thrown" "I", .fieldLink RX12 299 "HookPierModel" "pier" "LHookPierModel$Pier;", .methodLink RX12 42 yX12_refused, .instanceMethod yX12_refused, .selects RX12 yX12_refused yX12_refused, .initialized RX12]) (gd_app qsX12 qfX12_refused_nul))
theorem gfX12_best_nul_0 : GoodIn vfX12_best_nul (wsV RX12 42 RX12 yX12_refused vfX12_refused_nul) := goodIn_app (goodIn_r [.methodLink RX12 42 yX12_refused, .instanceMethod yX12_refused, .selects RX12 yX12_refused yX12_refused, .initialized RX12] [3, 4, 5, 6] rfl (by decide +kernel)) (goodIn_m (fun _ h => (List.mem_cons_of_mem _ (List.mem_append_right _ (List.mem_append_right _ h)))) qfX12_refused_nul)
set_option maxHeartbeats 2000000 in
set_option maxRecDepth 100000 in
theorem kfX12_best_nul (l : Launch) (dC : Nat → ClassId) (dI : Nat → Nat → Nat) (a0 : Nat) (m_t : TX12_t) (g2 : Value) (g3 : Value) (g4 : Value) (g5 : Value) (g6 : Value) (g7 : Value) (g8 : Value) (g9 : Value) (g10 : Value) (g11 : Value) (g12 : Value) (g13 : Value) (g14 : Value) (g15 : Value) (g16 : Value) (g17 : Value) (g18 : Value) (g19 : Value) (g20 : Value) (g21 : Value) (g22 : Value) (g23 : Value) (g24 : Value) (g25 : Value) (g26 : Value) (g27 : Value) (sz : Nat) (out : TX12_t) (h : f_X12_best_nul m_t = out) : KCi l yX12_best vfX12_best_nul ({ frames := 1, cells := 0, slots := 0, locals := 21 }) (dC, dI) [.ref a0] sz ([(a0, .inr (9, [.int m_t.1, .int m_t.2.1, .int m_t.2.2, .null, g2, g3, g4, g5, g6, g7, g8, g9, g10, g11, g12, g13, g14, g15, g16, g17, g18, g19, g20, g21, g22, g23, g24, g25, g26, g27]))]) ([]) (fun (r : Int32) _ => r = (-1)) ([(a0, .inr (9, [.int out.1, .int out.2.1, .int out.2.2, .null, g2, g3, g4, g5, g6, g7, g8, g9, g10, g11, g12, g13, g14, g15, g16, g17, g18, g19, g20, g21, g22, g23, g24, g25, g26, g27]))]) 0 0 := by
  refine Met.ofW (cc := cX12_best) (maxL := 5) (ret := (some .int)) (by decide) rfl ?_
  intro p e s m args below meth c s₁ B0 hml hv
  obtain ⟨rfl, hsz, hP, hK, hD0, hN⟩ := hv
  have hx := B0.exec
  have hb := B0.bytes
  have hr := B0.returns
  have hts := atoms_spec (ws := vfX12_best_nul) B0.pre
  have hown : s.vm.findClass RX12 = some m.cls := findClass_of_methodNamed B0.named
  have hlocks := B0.notSynchronized
  subst hsz
  have hD := hD0.self (sz := s.heap.size)
  generalize hAe : va_A ([(a0, .inr (9, [.int m_t.1, .int m_t.2.1, .int m_t.2.2, .null, g2, g3, g4, g5, g6, g7, g8, g9, g10, g11, g12, g13, g14, g15, g16, g17, g18, g19, g20, g21, g22, g23, g24, g25, g26, g27]))]) s.heap.size = A at hD ⊢
  have hA : ∀ q : Nat, s.heap.size ≤ q → A q := fun q h => by rw [← hAe]; exact Or.inr h
  have hS : va_S A s.heap s.heap [] := va_S.rf
  have hP : va_P (dC, dI) vwCl ([(a0, .inr (9, [.int m_t.1, .int m_t.2.1, .int m_t.2.2, .null, g2, g3, g4, g5, g6, g7, g8, g9, g10, g11, g12, g13, g14, g15, g16, g17, g18, g19, g20, g21, g22, g23, g24, g25, g26, g27]))]) s.heap := hP
  have hl := lv_entry ([.ref a0]) (n := 5) (Nat.le_of_ble_eq_true rfl)
  rw [lg_entry_eq]
  generalize (lg_sl ([.ref a0]) ++ List.replicate (5 - (lg_sl ([.ref a0])).length) Slot.unset).toArray = ls at hl ⊢
  have hl : lv_has ls 5 [(0, .ref a0)] := hl
  refine W_q (fun QQ hQQ => ?_)
  rw [f_X12_best_nul] at h
  refine lv_aload_n hx hb (zat zrX12_best_0_ok 0 rfl) rfl (lv_at hl 0 rfl) ?_
  refine lv_iconst (v := 0) hx hb (zat zrX12_best_0_ok 1 rfl) (by decide) ?_
  refine va_put (D := (dC, dI)) (ci := 9) (v := .int 0) (ty := .int) (C := RX12) (T := TX12) (N := 30) hx hb hts ifX12_best_nul_X12 tyX12 tyX12_ok nmX12 hown hK hP hD hS 0 rfl rfl 0 (by decide) (hts (.fieldLink RX12 36 "HookPierModel" "thrown" "I") (List.mem_of_getElem? (i := 1) rfl)) (fun _ h9 => h9) rfl (by decide +kernel) rfl rfl (Nat.le_of_ble_eq_true rfl) (zat zrX12_best_0_ok 2 rfl) (fun H locs hP hD hS => ?_)
  obtain ⟨hP, hD⟩ := pd_mk ([(a0, .inr (9, [.int 0, .int m_t.2.1, .int m_t.2.2, .null, g2, g3, g4, g5, g6, g7, g8, g9, g10, g11, g12, g13, g14, g15, g16, g17, g18, g19, g20, g21, g22, g23, g24, g25, g26, g27]))]) hP hD
  refine lv_aload_n hx hb (zat zrX12_best_0_ok 3 rfl) rfl (lv_at hl 0 rfl) ?_
  refine va_get (D := (dC, dI)) (ci := 9) (v := .null) (C := RX12) (T := TX12) (N := 30) hx hb hts ifX12_best_nul_X12 hown hK hP 0 rfl rfl 3 (by decide) (hts (.fieldLink RX12 299 "HookPierModel" "pier" "LHookPierModel$Pier;") (List.mem_of_getElem? (i := 2) rfl)) (fun _ h9 => h9) rfl (zat zrX12_best_0_ok 4 rfl) ?_
  refine lv_ifnonnullN hx hb (zat zrX12_best_0_ok 5 rfl) ?_
  refine lv_aload_n hx hb (zat zrX12_best_0b_ok 1 rfl) rfl (lv_at hl 0 rfl) ?_
  refine lv_iconst (v := 1) hx hb (zat zrX12_best_0b_ok 2 rfl) (by decide) ?_
  obtain ⟨o14, eo14⟩ : ∃ o, o = f_X12_refused_nul (1 : Int32) ((0 : Int32), m_t.2) := ⟨_, rfl⟩
  have h := nm_of h o14 eo14
  refine ck_i (wc := ([(a0, .inr (9, [.int 0, .int m_t.2.1, .int m_t.2.2, .null, g2, g3, g4, g5, g6, g7, g8, g9, g10, g11, g12, g13, g14, g15, g16, g17, g18, g19, g20, g21, g22, g23, g24, g25, g26, g27]))])) (wr := []) hP hD hK hS hA [0] [] rfl rfl (by decide) (by decide) (by decide) (fun hPc hDc => (va_runV (As := [.int 1]) (rest := []) ⟨hx, hb, hml, hown, hts⟩ (kfX12_refused_nul l dC dI a0 (1 : Int32) ((0 : Int32), m_t.2) (.null) (g2) (g3) (g4) (g5) (g6) (g7) (g8) (g9) (g10) (g11) (g12) (g13) (g14) (g15) (g16) (g17) (g18) (g19) (g20) (g21) (g22) (g23) (g24) (g25) (g26) (g27) H.size o14 eo14.symm) (cwV 1 hts gfX12_best_nul_0 rfl rfl rfl (by decide +kernel) ⟨(Nat.le_of_ble_eq_true rfl), (Nat.le_of_ble_eq_true rfl)⟩) (PV hPc (hK.sub (tys' := ([])) [] rfl) hDc hN 0 rfl rfl) rfl rfl hl.1 rfl (lv_room (Nat.le_of_ble_eq_true rfl)) (zat zrX12_best_0b_ok 3 rfl) ⟨(Nat.le_of_ble_eq_true rfl), (Nat.le_of_ble_eq_true rfl)⟩)) (fun r14 _ H locs hw hP hD _ hS => ?_)
  obtain rfl := hw
  obtain ⟨hP, hD⟩ := pd_mk ([(a0, .inr (9, [.int o14.1, .int o14.2.1, .int o14.2.2, .null, g2, g3, g4, g5, g6, g7, g8, g9, g10, g11, g12, g13, g14, g15, g16, g17, g18, g19, g20, g21, g22, g23, g24, g25, g26, g27]))]) hP hD
  obtain rfl := h
  obtain ⟨hP9, hD9⟩ := pd_sub ([(a0, .inr (9, [.int o14.1, .int o14.2.1, .int o14.2.2, .null, g2, g3, g4, g5, g6, g7, g8, g9, g10, g11, g12, g13, g14, g15, g16, g17, g18, g19, g20, g21, g22, g23, g24, g25, g26, g27]))]) [0] hP hD (by decide) rfl
  have hK9 := hK.sub (tys' := []) [] rfl
  rw [hQQ]
  exact W.iret (v := (-1 : Int32)) hx hb hr (fun t ht hW => ⟨⟨(-1 : Int32), (), rfl, rfl, by rw [ht]; exact hP9, va_K.moved hW.alike hK9, hD9⟩, hS.F ht⟩) hS.2.2 (zat zrX12_best_0b_ok 4 rfl)
