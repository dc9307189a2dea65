noncomputable def zrX12_seat_0 : List ZR := zc 0 true (.aload_n 0) 1 (zc 1 true (.iconst 0) 1 (zc 2 true (.putfield 36) 3 (zc 5 true (.aload_n 0) 1 (zc 6 true (.iload_n 1) 1 (zc 7 true (.invokevirtual 334) 3 (zc 10 true (.ifCond .ne 9) 3 (zc 13 true (.aload_n 0) 1 (zc 14 true (.iconst 1) 1 (zc 15 true (.invokevirtual 42) 3 (zc 18 true (.ireturn) 1 (zc 19 true (.aload_n 0) 1 (zc 20 true (.aload_n 0) 1 (zc 21 true (.invokevirtual 405) 3 (zc 24 true (.invokevirtual 408) 3 (zc 27 true (.aload_n 0) 1 (zc 28 true (.aload_n 0) 1 (zc 29 true (.getfield 393) 3 (zc 32 true (.ifCond .ne 8) 3 (zc 35 true (.bipush (-2)) 2 (zc 37 true (.goto 9) 3 (zc 40 true (.aload_n 0) 1 (zc 41 true (.getfield 33) 3 (zc 44 true (.iload_n 1) 1 (zc 45 true (.iaload) 1 (zc 46 true (.invokevirtual 46) 3 (zc 49 true (.ireturn) 1 ([])))))))))))))))))))))))))))
theorem zrX12_seat_0_ok : zck 0 ((zby cX12_seat).drop 0) zrX12_seat_0 = true := by decide +kernel
def vfX12_seat : List Cond := List.cons (.code yX12_seat cX12_seat 2 (some .int)) (apW [.fieldLink RX12 36 "HookPierModel" "thrown" "I", .methodLink RX12 334 yX12_isAsker, .instanceMethod yX12_isAsker, .selects RX12 yX12_isAsker yX12_isAsker, .initialized RX12, .methodLink RX12 405 yX12_allAskers, .instanceMethod yX12_allAskers, .selects RX12 yX12_allAskers yX12_allAskers, .methodLink RX12 408 yX12_seats, .instanceMethod yX12_seats, .selects RX12 yX12_seats yX12_seats, .fieldLink RX12 393 "HookPierModel" "seatings" "I", .methodLink RX12 46 yX12_good, .instanceMethod yX12_good, .selects RX12 yX12_good yX12_good, .fieldLink RX12 33 "HookPierModel" "firstSeat" "[I", .methodLink RX12 42 yX12_refused, .instanceMethod yX12_refused, .selects RX12 yX12_refused yX12_refused] (apW wsX120 (apW vfX12_isAsker (apW vfX12_allAskers (apW vfX12_seats (apW vfX12_good (vfX12_refused)))))))
theorem ifX12_seat_X12 : ∀ w ∈ wsX120, w ∈ vfX12_seat := fun _ h => (List.mem_cons_of_mem _ (List.mem_append_right _ (List.mem_append_left _ h)))
theorem qfX12_seat : Good vfX12_seat := gd_cons (by decide +kernel) (gd_app (gd_dec (by decide +kernel) : Good [.fieldLink RX12 36 "HookPierModel" "thrown" "I", .methodLink RX12 334 yX12_isAsker, .instanceMethod yX12_isAsker, .selects RX12 yX12_isAsker yX12_isAsker, .initialized RX12, .methodLink RX12 405 yX12_allAskers, .instanceMethod yX12_allAskers, .selects RX12 yX12_allAskers yX12_allAskers, .methodLink RX12 408 yX12_seats, .instanceMethod yX12_seats, .selects RX12 yX12_seats yX12_seats, .fieldLink RX12 393 "HookPierModel" "seatings" "I", .methodLink RX12 46 yX12_good, .instanceMethod yX12_good, .selects RX12 yX12_good yX12_good, .fieldLink RX12 33 "HookPierModel" "firstSeat" "[I", .methodLink RX12 42 yX12_refused, .instanceMethod yX12_refused, .selects RX12 yX12_refused yX12_refused]) (gd_app qsX12 (gd_app qfX12_isAsker (gd_app qfX12_allAskers (gd_app qfX12_seats (gd_app qfX12_good qfX12_refused))))))
theorem gfX12_seat_0 : GoodIn vfX12_seat (wsV RX12 334 RX12 yX12_isAsker vfX12_isAsker) := goodIn_app (goodIn_r [.methodLink RX12 334 yX12_isAsker, .instanceMethod yX12_isAsker, .selects RX12 yX12_isAsker yX12_isAsker, .initialized RX12] [2, 3, 4, 5] rfl (by decide +kernel)) (goodIn_m (fun _ h => (List.mem_cons_of_mem _ (List.mem_append_right _ (List.mem_append_right _ (List.mem_append_left _ h))))) qfX12_isAsker)
theorem gfX12_seat_1 : GoodIn vfX12_seat (wsV RX12 405 RX12 yX12_allAskers vfX12_allAskers) := goodIn_app (goodIn_r [.methodLink RX12 405 yX12_allAskers, .instanceMethod yX12_allAskers, .selects RX12 yX12_allAskers yX12_allAskers, .initialized RX12] [6, 7, 8, 5] rfl (by decide +kernel)) (goodIn_m (fun _ h => (List.mem_cons_of_mem _ (List.mem_append_right _ (List.mem_append_right _ (List.mem_append_right _ (List.mem_append_left _ h)))))) qfX12_allAskers)
theorem gfX12_seat_2 : GoodIn vfX12_seat (wsV RX12 408 RX12 yX12_seats vfX12_seats) := goodIn_app (goodIn_r [.methodLink RX12 408 yX12_seats, .instanceMethod yX12_seats, .selects RX12 yX12_seats yX12_seats, .initialized RX12] [9, 10, 11, 5] rfl (by decide +kernel)) (goodIn_m (fun _ h => (List.mem_cons_of_mem _ (List.mem_append_right _ (List.mem_append_right _ (List.mem_append_right _ (List.mem_append_right _ (List.mem_append_left _ h))))))) qfX12_seats)
theorem gfX12_seat_3 : GoodIn vfX12_seat (wsV RX12 46 RX12 yX12_good vfX12_good) := goodIn_app (goodIn_r [.methodLink RX12 46 yX12_good, .instanceMethod yX12_good, .selects RX12 yX12_good yX12_good, .initialized RX12] [13, 14, 15, 5] rfl (by decide +kernel)) (goodIn_m (fun _ h => (List.mem_cons_of_mem _ (List.mem_append_right _ (List.mem_append_right _ (List.mem_append_right _ (List.mem_append_right _ (List.mem_append_right _ (List.mem_append_left _ h)))))))) qfX12_good)
theorem gfX12_seat_4 : GoodIn vfX12_seat (wsV RX12 42 RX12 yX12_refused vfX12_refused) := goodIn_app (goodIn_r [.methodLink RX12 42 yX12_refused, .instanceMethod yX12_refused, .selects RX12 yX12_refused yX12_refused, .initialized RX12] [17, 18, 19, 5] rfl (by decide +kernel)) (goodIn_m (fun _ h => (List.mem_cons_of_mem _ (List.mem_append_right _ (List.mem_append_right _ (List.mem_append_right _ (List.mem_append_right _ (List.mem_append_right _ (List.mem_append_right _ h)))))))) qfX12_refused)
set_option maxHeartbeats 2000000 in
set_option maxRecDepth 100000 in
theorem kfX12_seat (l : Launch) (dC : Nat → ClassId) (dI : Nat → Nat → Nat) (a0 : Nat) (k1 : Int32) (a2 : Nat) (a3 : Nat) (a4 : Nat) (uq : Nat → Nat) (kq : Nat → ClassId) (m_t : TX12_t) (m_z : TX12_z) (g9 : Value) (g10 : Value) (g11 : Value) (g12 : Value) (g13 : Value) (g14 : Value) (g15 : Value) (g16 : Value) (g17 : Value) (g18 : Value) (g19 : Value) (g20 : Value) (g21 : Value) (g22 : Value) (g23 : Value) (g24 : Value) (g25 : Value) (g26 : Value) (g27 : Value) (g28 : Value) (g29 : Value) (g30 : Value) (g31 : Value) (q_q : TX11_q) (cB33 : ClassId) (cB34 : ClassId) (sz : Nat) (out : (Int32 × TX12_t × TX12_z)) (h : f_X12_seat k1 m_t m_z q_q = some out) : KCi l yX12_seat vfX12_seat ({ frames := 4, cells := 0, slots := 0, locals := 92 }) (dC, dI) [.ref a0, .int k1] sz ((a0, .inr (9, [.int m_t.1, .int m_t.2.1, .int m_t.2.2, .ref a2, g9, g10, g11, g12, g13, g14, g15, g16, g17, g18, g19, g20, g21, g22, g23, g24, g25, .ref a3, .ref a4, .int m_z.2.2, g26, g27, g28, g29, g30, g31])) :: bX11 a2 uq kq q_q ([(a3, .inl (cB33, 5, .inl m_z.1)), (a4, .inl (cB34, 5, .inl m_z.2.1))])) (tX11 kq ((cB33, .int) :: (cB34, .int) :: [])) (fun (r : Int32) _ => r = out.1) ((a0, .inr (9, [.int out.2.1.1, .int out.2.1.2.1, .int out.2.1.2.2, .ref a2, g9, g10, g11, g12, g13, g14, g15, g16, g17, g18, g19, g20, g21, g22, g23, g24, g25, .ref a3, .ref a4, .int out.2.2.2.2, g26, g27, g28, g29, g30, g31])) :: bX11 a2 uq kq q_q ([(a3, .inl (cB33, 5, .inl out.2.2.1)), (a4, .inl (cB34, 5, .inl out.2.2.2.1))])) 0 0 := by
  refine Met.ofW (cc := cX12_seat) (maxL := 2) (ret := (some .int)) (by decide) rfl ?_
  intro p e s m args below meth c s₁ B0 hml hv
  obtain ⟨rfl, hsz, hP, hK, hD0, hN⟩ := hv
  have hx := B0.exec
  have hb := B0.bytes
  have hr := B0.returns
  have hts := atoms_spec (ws := vfX12_seat) B0.pre
  have hown : s.vm.findClass RX12 = some m.cls := findClass_of_methodNamed B0.named
  have hlocks := B0.notSynchronized
  subst hsz
  have hD := hD0.self (sz := s.heap.size)
  generalize hAe : va_A ((a0, .inr (9, [.int m_t.1, .int m_t.2.1, .int m_t.2.2, .ref a2, g9, g10, g11, g12, g13, g14, g15, g16, g17, g18, g19, g20, g21, g22, g23, g24, g25, .ref a3, .ref a4, .int m_z.2.2, g26, g27, g28, g29, g30, g31])) :: bX11 a2 uq kq q_q ([(a3, .inl (cB33, 5, .inl m_z.1)), (a4, .inl (cB34, 5, .inl m_z.2.1))])) s.heap.size = A at hD ⊢
  have hA : ∀ q : Nat, s.heap.size ≤ q → A q := fun q h => by rw [← hAe]; exact Or.inr h
  have hS : va_S A s.heap s.heap [] := va_S.rf
  have hP : va_P (dC, dI) vwCl ((a0, .inr (9, [.int m_t.1, .int m_t.2.1, .int m_t.2.2, .ref a2, g9, g10, g11, g12, g13, g14, g15, g16, g17, g18, g19, g20, g21, g22, g23, g24, g25, .ref a3, .ref a4, .int m_z.2.2, g26, g27, g28, g29, g30, g31])) :: bX11 a2 uq kq q_q ([(a3, .inl (cB33, 5, .inl m_z.1)), (a4, .inl (cB34, 5, .inl m_z.2.1))])) s.heap := hP
  have hl := lv_entry ([.ref a0, .int k1]) (n := 2) (Nat.le_of_ble_eq_true rfl)
  rw [lg_entry_eq]
  generalize (lg_sl ([.ref a0, .int k1]) ++ List.replicate (2 - (lg_sl ([.ref a0, .int k1])).length) Slot.unset).toArray = ls at hl ⊢
  have hl : lv_has ls 2 [(0, .ref a0), (1, .int k1)] := hl
  refine W_q (fun QQ hQQ => ?_)
  rw [f_X12_seat] at h
  refine lv_aload_n hx hb (zat zrX12_seat_0_ok 0 rfl) rfl (lv_at hl 0 rfl) ?_
  refine lv_iconst (v := 0) hx hb (zat zrX12_seat_0_ok 1 rfl) (by decide) ?_
  refine va_put (D := (dC, dI)) (ci := 9) (v := .int 0) (ty := .int) (C := RX12) (T := TX12) (N := 30) hx hb hts ifX12_seat_X12 tyX12 tyX12_ok nmX12 hown hK hP hD hS 0 rfl rfl 0 (by decide) (hts (.fieldLink RX12 36 "HookPierModel" "thrown" "I") (List.mem_of_getElem? (i := 1) rfl)) (fun _ h9 => h9) rfl (by decide +kernel) rfl rfl (Nat.le_of_ble_eq_true rfl) (zat zrX12_seat_0_ok 2 rfl) (fun H locs hP hD hS => ?_)
  obtain ⟨hP, hD⟩ := pd_mk ((a0, .inr (9, [.int 0, .int m_t.2.1, .int m_t.2.2, .ref a2, g9, g10, g11, g12, g13, g14, g15, g16, g17, g18, g19, g20, g21, g22, g23, g24, g25, .ref a3, .ref a4, .int m_z.2.2, g26, g27, g28, g29, g30, g31])) :: bX11 a2 uq kq q_q ([(a3, .inl (cB33, 5, .inl m_z.1)), (a4, .inl (cB34, 5, .inl m_z.2.1))])) hP hD
  refine lv_aload_n hx hb (zat zrX12_seat_0_ok 3 rfl) rfl (lv_at hl 0 rfl) ?_
  refine lv_iload_n hx hb (zat zrX12_seat_0_ok 4 rfl) rfl (lv_at hl 1 rfl) ?_
  obtain ⟨o7, eo7⟩ : ∃ o, o = f_X12_isAsker k1 q_q := ⟨_, rfl⟩
  have h := nm_of h o7 eo7
  refine ck_i (wc := ((a0, .inr (9, [.int 0, .int m_t.2.1, .int m_t.2.2, .ref a2, g9, g10, g11, g12, g13, g14, g15, g16, g17, g18, g19, g20, g21, g22, g23, g24, g25, .ref a3, .ref a4, .int m_z.2.2, g26, g27, g28, g29, g30, g31])) :: bX11 a2 uq kq q_q [])) (wr := ([(a3, .inl (cB33, 5, .inl m_z.1)), (a4, .inl (cB34, 5, .inl m_z.2.1))])) hP hD hK hS hA [0, 1, 2, 3, 4, 5, 6, 7, 8, 9, 10, 11, 12, 13, 14, 15] [16, 17] rfl rfl (by decide) (by decide) (by decide) (fun hPc hDc => (va_runV (As := [.int k1]) (rest := []) ⟨hx, hb, hml, hown, hts⟩ (kfX12_isAsker l dC dI a0 k1 a2 uq kq (.int 0) (.int m_t.2.1) (.int m_t.2.2) (g9) (g10) (g11) (g12) (g13) (g14) (g15) (g16) (g17) (g18) (g19) (g20) (g21) (g22) (g23) (g24) (g25) (.ref a3) (.ref a4) (.int m_z.2.2) (g26) (g27) (g28) (g29) (g30) (g31) q_q H.size o7 eo7.symm) (cwV 1 hts gfX12_seat_0 rfl rfl rfl (by decide +kernel) ⟨(Nat.le_of_ble_eq_true rfl), (Nat.le_of_ble_eq_true rfl)⟩) (PV hPc (hK.sub (tys' := (tX11 kq ([]))) [0, 1, 2, 3, 4, 5, 6, 7, 8, 9, 10, 11, 12, 13] rfl) hDc hN 0 rfl rfl) rfl rfl hl.1 rfl (lv_room (Nat.le_of_ble_eq_true rfl)) (zat zrX12_seat_0_ok 5 rfl) ⟨(Nat.le_of_ble_eq_true rfl), (Nat.le_of_ble_eq_true rfl)⟩)) (fun r7 _ H locs hw hP hD _ hS => ?_)
  obtain ⟨hw, br7⟩ := hw
  obtain rfl := hw.symm
  obtain ⟨hP, hD⟩ := pd_mk ((a3, .inl (cB33, 5, .inl m_z.1)) :: (a4, .inl (cB34, 5, .inl m_z.2.1)) :: (a0, .inr (9, [.int 0, .int m_t.2.1, .int m_t.2.2, .ref a2, g9, g10, g11, g12, g13, g14, g15, g16, g17, g18, g19, g20, g21, g22, g23, g24, g25, .ref a3, .ref a4, .int m_z.2.2, g26, g27, g28, g29, g30, g31])) :: bX11 a2 uq kq q_q []) hP hD
  refine lv_if_ne (tgt := 19) hx hb (zat zrX12_seat_0_ok 6 rfl) (by decide) (fun c10 => ?_) (fun c10 => ?_)
  · have h := (if_neg c10).symm.trans h
    refine lv_aload_n hx hb (zat zrX12_seat_0_ok 11 rfl) rfl (lv_at hl 0 rfl) ?_
    refine lv_aload_n hx hb (zat zrX12_seat_0_ok 12 rfl) rfl (lv_at hl 0 rfl) ?_
    obtain ⟨o21, eo21⟩ : ∃ o, o = f_X12_allAskers q_q := ⟨_, rfl⟩
    have h := nm_of h o21 eo21
    refine ck_i (wc := ((a0, .inr (9, [.int 0, .int m_t.2.1, .int m_t.2.2, .ref a2, g9, g10, g11, g12, g13, g14, g15, g16, g17, g18, g19, g20, g21, g22, g23, g24, g25, .ref a3, .ref a4, .int m_z.2.2, g26, g27, g28, g29, g30, g31])) :: bX11 a2 uq kq q_q [])) (wr := ([(a3, .inl (cB33, 5, .inl m_z.1)), (a4, .inl (cB34, 5, .inl m_z.2.1))])) hP hD hK hS hA [2, 3, 4, 5, 6, 7, 8, 9, 10, 11, 12, 13, 14, 15, 16, 17] [0, 1] rfl rfl (by decide) (by decide) (by decide) (fun hPc hDc => (va_runV (As := []) (rest := [.ref a0]) ⟨hx, hb, hml, hown, hts⟩ (kfX12_allAskers l dC dI a0 a2 uq kq (.int 0) (.int m_t.2.1) (.int m_t.2.2) (g9) (g10) (g11) (g12) (g13) (g14) (g15) (g16) (g17) (g18) (g19) (g20) (g21) (g22) (g23) (g24) (g25) (.ref a3) (.ref a4) (.int m_z.2.2) (g26) (g27) (g28) (g29) (g30) (g31) q_q H.size o21 eo21.symm) (cwV 0 hts gfX12_seat_1 rfl rfl rfl (by decide +kernel) ⟨(Nat.le_of_ble_eq_true rfl), (Nat.le_of_ble_eq_true rfl)⟩) (PV hPc (hK.sub (tys' := (tX11 kq ([]))) [0, 1, 2, 3, 4, 5, 6, 7, 8, 9, 10, 11, 12, 13] rfl) hDc hN 0 rfl rfl) rfl rfl hl.1 rfl (lv_room (Nat.le_of_ble_eq_true rfl)) (zat zrX12_seat_0_ok 13 rfl) ⟨(Nat.le_of_ble_eq_true rfl), (Nat.le_of_ble_eq_true rfl)⟩)) (fun r21 _ H locs hw hP hD _ hS => ?_)
    obtain rfl := hw.symm
    obtain ⟨hP, hD⟩ := pd_mk ((a3, .inl (cB33, 5, .inl m_z.1)) :: (a4, .inl (cB34, 5, .inl m_z.2.1)) :: (a0, .inr (9, [.int 0, .int m_t.2.1, .int m_t.2.2, .ref a2, g9, g10, g11, g12, g13, g14, g15, g16, g17, g18, g19, g20, g21, g22, g23, g24, g25, .ref a3, .ref a4, .int m_z.2.2, g26, g27, g28, g29, g30, g31])) :: bX11 a2 uq kq q_q []) hP hD
    obtain ⟨o24, eo24, h⟩ := bd_of h
    refine ck_v (wc := ((a0, .inr (9, [.int 0, .int m_t.2.1, .int m_t.2.2, .ref a2, g9, g10, g11, g12, g13, g14, g15, g16, g17, g18, g19, g20, g21, g22, g23, g24, g25, .ref a3, .ref a4, .int m_z.2.2, g26, g27, g28, g29, g30, g31])) :: bX11 a2 uq kq q_q ([(a3, .inl (cB33, 5, .inl m_z.1)), (a4, .inl (cB34, 5, .inl m_z.2.1))]))) (wr := []) hP hD hK hS hA [2, 3, 4, 5, 6, 7, 8, 9, 10, 11, 12, 13, 14, 15, 16, 17, 0, 1] [] rfl rfl (by decide) (by decide) (by decide) (fun hPc hDc => (va_runV (As := [.int o21]) (rest := []) ⟨hx, hb, hml, hown, hts⟩ (kfX12_seats l dC dI a0 o21 a2 a3 a4 uq kq m_z (.int 0) (.int m_t.2.1) (.int m_t.2.2) (g9) (g10) (g11) (g12) (g13) (g14) (g15) (g16) (g17) (g18) (g19) (g20) (g21) (g22) (g23) (g24) (g25) (g26) (g27) (g28) (g29) (g30) (g31) q_q cB33 cB34 H.size o24 eo24) (cwV 1 hts gfX12_seat_2 rfl rfl rfl (by decide +kernel) ⟨(Nat.le_of_ble_eq_true rfl), (Nat.le_of_ble_eq_true rfl)⟩) (PV hPc (hK.sub (tys' := (tX11 kq ((cB33, .int) :: (cB34, .int) :: []))) [0, 1, 2, 3, 4, 5, 6, 7, 8, 9, 10, 11, 12, 13, 14, 15] rfl) hDc hN 0 rfl rfl) rfl rfl hl.1 rfl (lv_room (Nat.le_of_ble_eq_true rfl)) (zat zrX12_seat_0_ok 14 rfl) ⟨(Nat.le_of_ble_eq_true rfl), (Nat.le_of_ble_eq_true rfl)⟩)) (fun _ H locs hw hP hD _ hS => ?_)
    obtain ⟨hP, hD⟩ := pd_mk ((a0, .inr (9, [.int 0, .int m_t.2.1, .int m_t.2.2, .ref a2, g9, g10, g11, g12, g13, g14, g15, g16, g17, g18, g19, g20, g21, g22, g23, g24, g25, .ref a3, .ref a4, .int o24.2.2, g26, g27, g28, g29, g30, g31])) :: bX11 a2 uq kq q_q ([(a3, .inl (cB33, 5, .inl o24.1)), (a4, .inl (cB34, 5, .inl o24.2.1))])) hP hD
    refine lv_aload_n hx hb (zat zrX12_seat_0_ok 15 rfl) rfl (lv_at hl 0 rfl) ?_
    refine lv_aload_n hx hb (zat zrX12_seat_0_ok 16 rfl) rfl (lv_at hl 0 rfl) ?_
    refine va_get (D := (dC, dI)) (ci := 9) (v := .int o24.2.2) (C := RX12) (T := TX12) (N := 30) hx hb hts ifX12_seat_X12 hown hK hP 0 rfl rfl 23 (by decide) (hts (.fieldLink RX12 393 "HookPierModel" "seatings" "I") (List.mem_of_getElem? (i := 12) rfl)) (fun _ h9 => h9) rfl (zat zrX12_seat_0_ok 17 rfl) ?_
    have J46 : ∀ (v46_t1 : Int32) (H : Heap) (locs : List Loc) (ls : Array Slot), f_X12_seat_J46 m_t o24 v46_t1 = some out → va_P (dC, dI) vwCl ((a0, .inr (9, [.int 0, .int m_t.2.1, .int m_t.2.2, .ref a2, g9, g10, g11, g12, g13, g14, g15, g16, g17, g18, g19, g20, g21, g22, g23, g24, g25, .ref a3, .ref a4, .int o24.2.2, g26, g27, g28, g29, g30, g31])) :: bX11 a2 uq kq q_q ([(a3, .inl (cB33, 5, .inl o24.1)), (a4, .inl (cB34, 5, .inl o24.2.1))])) H → va_D A ((a0, .inr (9, [.int 0, .int m_t.2.1, .int m_t.2.2, .ref a2, g9, g10, g11, g12, g13, g14, g15, g16, g17, g18, g19, g20, g21, g22, g23, g24, g25, .ref a3, .ref a4, .int o24.2.2, g26, g27, g28, g29, g30, g31])) :: bX11 a2 uq kq q_q ([(a3, .inl (cB33, 5, .inl o24.1)), (a4, .inl (cB34, 5, .inl o24.2.1))])) → va_S A s.heap H locs → lv_has ls 2 [] → W p l e (headSpec vfX12_seat { frames := 4, cells := 0, slots := 0, locals := 92 }).room s m ([.ref a0, .int k1]).toArray below meth c H locs 0 0 QQ (F0 m 46 ls [.int v46_t1, .ref a0]) := by
      intro v46_t1 H locs ls h  hP hD hS hl
      rw [f_X12_seat_J46] at h
      obtain ⟨o46, eo46⟩ : ∃ o, o = f_X12_good v46_t1 ((0 : Int32), m_t.2) := ⟨_, rfl⟩
      have h := nm_of h o46 eo46
      refine ck_i (wc := ([(a0, .inr (9, [.int 0, .int m_t.2.1, .int m_t.2.2, .ref a2, g9, g10, g11, g12, g13, g14, g15, g16, g17, g18, g19, g20, g21, g22, g23, g24, g25, .ref a3, .ref a4, .int o24.2.2, g26, g27, g28, g29, g30, g31]))])) (wr := (bX11 a2 uq kq q_q ([(a3, .inl (cB33, 5, .inl o24.1)), (a4, .inl (cB34, 5, .inl o24.2.1))]))) hP hD hK hS hA [0] [1, 2, 3, 4, 5, 6, 7, 8, 9, 10, 11, 12, 13, 14, 15, 16, 17] rfl rfl (by decide) (by decide) (by decide) (fun hPc hDc => (va_runV (As := [.int v46_t1]) (rest := []) ⟨hx, hb, hml, hown, hts⟩ (kfX12_good l dC dI a0 v46_t1 ((0 : Int32), m_t.2) (.ref a2) (g9) (g10) (g11) (g12) (g13) (g14) (g15) (g16) (g17) (g18) (g19) (g20) (g21) (g22) (g23) (g24) (g25) (.ref a3) (.ref a4) (.int o24.2.2) (g26) (g27) (g28) (g29) (g30) (g31) H.size o46 eo46.symm) (cwV 1 hts gfX12_seat_3 rfl rfl rfl (by decide +kernel) ⟨(Nat.le_of_ble_eq_true rfl), (Nat.le_of_ble_eq_true rfl)⟩) (PV hPc (hK.sub (tys' := ([])) [] rfl) hDc hN 0 rfl rfl) rfl rfl hl.1 rfl (lv_room (Nat.le_of_ble_eq_true rfl)) (zat zrX12_seat_0_ok 25 rfl) ⟨(Nat.le_of_ble_eq_true rfl), (Nat.le_of_ble_eq_true rfl)⟩)) (fun r46 _ H locs hw hP hD _ hS => ?_)
      obtain rfl := hw
      obtain ⟨hP, hD⟩ := pd_mk (bX11 a2 uq kq q_q ([(a3, .inl (cB33, 5, .inl o24.1)), (a4, .inl (cB34, 5, .inl o24.2.1)), (a0, .inr (9, [.int o46.2.1, .int o46.2.2.1, .int o46.2.2.2, .ref a2, g9, g10, g11, g12, g13, g14, g15, g16, g17, g18, g19, g20, g21, g22, g23, g24, g25, .ref a3, .ref a4, .int o24.2.2, g26, g27, g28, g29, g30, g31]))])) hP hD
      obtain rfl := Option.some.inj h
      obtain ⟨hP9, hD9⟩ := pd_sub ((a0, .inr (9, [.int o46.2.1, .int o46.2.2.1, .int o46.2.2.2, .ref a2, g9, g10, g11, g12, g13, g14, g15, g16, g17, g18, g19, g20, g21, g22, g23, g24, g25, .ref a3, .ref a4, .int o24.2.2, g26, g27, g28, g29, g30, g31])) :: bX11 a2 uq kq q_q ([(a3, .inl (cB33, 5, .inl o24.1)), (a4, .inl (cB34, 5, .inl o24.2.1))])) [17, 0, 1, 2, 3, 4, 5, 6, 7, 8, 9, 10, 11, 12, 13, 14, 15, 16] hP hD (by decide) rfl
      have hK9 := hK.sub (tys' := []) [] rfl
      rw [hQQ]
      exact W.iret (v := o46.1) hx hb hr (fun t ht hW => ⟨⟨o46.1, (), rfl, rfl, by rw [ht]; exact hP9, va_K.moved hW.alike hK9, hD9⟩, hS.F ht⟩) hS.2.2 (zat zrX12_seat_0_ok 26 rfl)
    refine lv_if_ne (tgt := 40) hx hb (zat zrX12_seat_0_ok 18 rfl) (by decide) (fun c32 => ?_) (fun c32 => ?_)
    · have h := (if_neg c32).symm.trans h
      refine lv_aload_n hx hb (zat zrX12_seat_0_ok 21 rfl) rfl (lv_at hl 0 rfl) ?_
      refine va_get (D := (dC, dI)) (ci := 9) (v := .ref a4) (C := RX12) (T := TX12) (N := 30) hx hb hts ifX12_seat_X12 hown hK hP 0 rfl rfl 22 (by decide) (hts (.fieldLink RX12 33 "HookPierModel" "firstSeat" "[I") (List.mem_of_getElem? (i := 16) rfl)) (fun _ h9 => h9) rfl (zat zrX12_seat_0_ok 22 rfl) ?_
      refine lv_iload_n hx hb (zat zrX12_seat_0_ok 23 rfl) rfl (lv_at hl 1 rfl) ?_
      obtain ⟨hg45, h⟩ := gA_of h
      refine va_iald hx hb hK hP 17 15 rfl rfl hg45 (zat zrX12_seat_0_ok 24 rfl) ?_
      exact J46 (o24.2.1 (k1).toNatClampNeg) H _ ls h  hP hD hS (lv_sub hl [] rfl)
    · have h := (if_pos c32).symm.trans h
      refine lv_bipush (v := (-2)) hx hb (zat zrX12_seat_0_ok 19 rfl) (by decide) ?_
      refine lv_goto (tgt := 46) hx hb (zat zrX12_seat_0_ok 20 rfl) (by decide) ?_
      exact J46 (-2 : Int32) H _ ls h  hP hD hS (lv_sub hl [] rfl)
  · have h := (if_pos c10).symm.trans h
    refine lv_aload_n hx hb (zat zrX12_seat_0_ok 7 rfl) rfl (lv_at hl 0 rfl) ?_
    refine lv_iconst (v := 1) hx hb (zat zrX12_seat_0_ok 8 rfl) (by decide) ?_
    obtain ⟨o15, eo15⟩ : ∃ o, o = f_X12_refused (1 : Int32) ((0 : Int32), m_t.2) := ⟨_, rfl⟩
    have h := nm_of h o15 eo15
    refine ck_i (wc := ([(a0, .inr (9, [.int 0, .int m_t.2.1, .int m_t.2.2, .ref a2, g9, g10, g11, g12, g13, g14, g15, g16, g17, g18, g19, g20, g21, g22, g23, g24, g25, .ref a3, .ref a4, .int m_z.2.2, g26, g27, g28, g29, g30, g31]))])) (wr := ((a3, .inl (cB33, 5, .inl m_z.1)) :: (a4, .inl (cB34, 5, .inl m_z.2.1)) :: bX11 a2 uq kq q_q [])) hP hD hK hS hA [2] [0, 1, 3, 4, 5, 6, 7, 8, 9, 10, 11, 12, 13, 14, 15, 16, 17] rfl rfl (by decide) (by decide) (by decide) (fun hPc hDc => (va_runV (As := [.int 1]) (rest := []) ⟨hx, hb, hml, hown, hts⟩ (kfX12_refused l dC dI a0 (1 : Int32) ((0 : Int32), m_t.2) (.ref a2) (g9) (g10) (g11) (g12) (g13) (g14) (g15) (g16) (g17) (g18) (g19) (g20) (g21) (g22) (g23) (g24) (g25) (.ref a3) (.ref a4) (.int m_z.2.2) (g26) (g27) (g28) (g29) (g30) (g31) H.size o15 eo15.symm) (cwV 1 hts gfX12_seat_4 rfl rfl rfl (by decide +kernel) ⟨(Nat.le_of_ble_eq_true rfl), (Nat.le_of_ble_eq_true rfl)⟩) (PV hPc (hK.sub (tys' := ([])) [] rfl) hDc hN 0 rfl rfl) rfl rfl hl.1 rfl (lv_room (Nat.le_of_ble_eq_true rfl)) (zat zrX12_seat_0_ok 9 rfl) ⟨(Nat.le_of_ble_eq_true rfl), (Nat.le_of_ble_eq_true rfl)⟩)) (fun r15 _ H locs hw hP hD _ hS => ?_)
    obtain rfl := hw
    obtain ⟨hP, hD⟩ := pd_mk ((a3, .inl (cB33, 5, .inl m_z.1)) :: (a4, .inl (cB34, 5, .inl m_z.2.1)) :: bX11 a2 uq kq q_q ([(a0, .inr (9, [.int o15.1, .int o15.2.1, .int o15.2.2, .ref a2, g9, g10, g11, g12, g13, g14, g15, g16, g17, g18, g19, g20, g21, g22, g23, g24, g25, .ref a3, .ref a4, .int m_z.2.2, g26, g27, g28, g29, g30, g31]))])) hP hD
    obtain rfl := Option.some.inj h
    obtain ⟨hP9, hD9⟩ := pd_sub ((a0, .inr (9, [.int o15.1, .int o15.2.1, .int o15.2.2, .ref a2, g9, g10, g11, g12, g13, g14, g15, g16, g17, g18, g19, g20, g21, g22, g23, g24, g25, .ref a3, .ref a4, .int m_z.2.2, g26, g27, g28, g29, g30, g31])) :: bX11 a2 uq kq q_q ([(a3, .inl (cB33, 5, .inl m_z.1)), (a4, .inl (cB34, 5, .inl m_z.2.1))])) [17, 2, 3, 4, 5, 6, 7, 8, 9, 10, 11, 12, 13, 14, 15, 16, 0, 1] hP hD (by decide) rfl
    have hK9 := hK.sub (tys' := []) [] rfl
    rw [hQQ]
    exact W.iret (v := (-1 : Int32)) hx hb hr (fun t ht hW => ⟨⟨(-1 : Int32), (), rfl, rfl, by rw [ht]; exact hP9, va_K.moved hW.alike hK9, hD9⟩, hS.F ht⟩) hS.2.2 (zat zrX12_seat_0_ok 10 rfl)
noncomputable def zrX12_bits_0 : List ZR := zc 0 true (.iconst 0) 1 (zc 1 true (.istore_n 1) 1 (zc 2 true (.iload_n 0) 1 (zc 3 true (.istore_n 2) 1 (zc 4 true (.iload_n 2) 1 (zc 5 true (.ifCond .eq 15) 3 (zc 8 true (.iinc 1 1) 3 (zc 11 true (.iload_n 2) 1 (zc 12 true (.iload_n 2) 1 (zc 13 true (.iconst 1) 1 (zc 14 true (.isub) 1 (zc 15 true (.iand) 1 (zc 16 true (.istore_n 2) 1 (zc 17 true (.goto (-13)) 3 (zc 20 true (.iload_n 1) 1 (zc 21 true (.ireturn) 1 ([]))))))))))))))))
theorem zrX12_bits_0_ok : zck 0 ((zby cX12_bits).drop 0) zrX12_bits_0 = true := by decide +kernel
def vfX12_bits : List Cond := .code yX12_bits cX12_bits 3 (some .int) :: ([])
theorem qfX12_bits : Good vfX12_bits := gd_cons (by decide +kernel) (gd_dec (by decide +kernel) : Good [])
set_option maxHeartbeats 2000000 in
set_option maxRecDepth 100000 in
theorem kfX12_bits (l : Launch) (dC : Nat → ClassId) (dI : Nat → Nat → Nat) (k0 : Int32) (sz : Nat) (out : Int32) (h : f_X12_bits k0 = some out) : KDi l yX12_bits vfX12_bits ({ frames := 0, cells := 0, slots := 0, locals := 0 }) (dC, dI) [.int k0] sz [] ([]) (fun (r : Int32) _ => r = out) 0 0 := by
  refine Met.ofW (cc := cX12_bits) (maxL := 3) (ret := (some .int)) (by decide) rfl ?_
  intro p e s m args below meth c s₁ B0 hml hv
  obtain ⟨rfl, hsz, hP, hK, hD0, hN⟩ := hv
  have hx := B0.exec
  have hb := B0.bytes
  have hr := B0.returns
  have hts := atoms_spec (ws := vfX12_bits) B0.pre
  have hown : s.vm.findClass RX12 = some m.cls := findClass_of_methodNamed B0.named
  have hlocks := B0.notSynchronized
  subst hsz
  have hD := hD0.self (sz := s.heap.size)
  generalize hAe : va_A [] s.heap.size = A at hD ⊢
  have hA : ∀ q : Nat, s.heap.size ≤ q → A q := fun q h => by rw [← hAe]; exact Or.inr h
  have hS : va_S A s.heap s.heap [] := va_S.rf
  have hP : va_P (dC, dI) vwCl [] s.heap := hP
  have hl := lv_entry ([.int k0]) (n := 3) (Nat.le_of_ble_eq_true rfl)
  rw [lg_entry_eq]
  generalize (lg_sl ([.int k0]) ++ List.replicate (3 - (lg_sl ([.int k0])).length) Slot.unset).toArray = ls at hl ⊢
  have hl : lv_has ls 3 [(0, .int k0)] := hl
  refine W_q (fun QQ hQQ => ?_)
  rw [f_X12_bits] at h
  refine lv_iconst (v := 0) hx hb (zat zrX12_bits_0_ok 0 rfl) (by decide) ?_
  refine lv_istore_n (lv' := [(1, .int 0), (0, .int k0)]) hx hb (zat zrX12_bits_0_ok 1 rfl) rfl hl (by decide) rfl (fun ls hl => ?_)
  refine lv_iload_n hx hb (zat zrX12_bits_0_ok 2 rfl) rfl (lv_at hl 1 rfl) ?_
  refine lv_istore_n (lv' := [(2, .int k0), (1, .int 0), (0, .int k0)]) hx hb (zat zrX12_bits_0_ok 3 rfl) rfl hl (by decide) rfl (fun ls hl => ?_)
  have L4 : ∀ (n4 : Nat) (v4_l2 : Int32) (v4_l1 : Int32) (H : Heap) (locs : List Loc) (ls : Array Slot), f_X12_bits_L4 n4 v4_l2 v4_l1 = some out → va_P (dC, dI) vwCl [] H → va_D A [] → va_S A s.heap H locs → lv_has ls 3 [(2, .int v4_l2), (1, .int v4_l1)] → W p l e (headSpec vfX12_bits { frames := 0, cells := 0, slots := 0, locals := 0 }).room s m ([.int k0]).toArray below meth c H locs 0 0 QQ (F0 m 4 ls []) := by
    intro n4
    induction n4 with
    | zero =>
      intro v4_l2 v4_l1 H locs ls h  _ _ _ _
      rw [f_X12_bits_L4] at h
      cases h
    | succ n4 ih4 =>
      intro v4_l2 v4_l1 H locs ls h  hP hD hS hl
      rw [f_X12_bits_L4] at h
      refine lv_iload_n hx hb (zat zrX12_bits_0_ok 4 rfl) rfl (lv_at hl 0 rfl) ?_
      refine lv_if_eq (tgt := 20) hx hb (zat zrX12_bits_0_ok 5 rfl) (by decide) (fun c5 => ?_) (fun c5 => ?_)
      · have h := (if_pos c5).symm.trans h
        refine lv_iload_n hx hb (zat zrX12_bits_0_ok 14 rfl) rfl (lv_at hl 1 rfl) ?_
        obtain rfl := Option.some.inj h
        obtain ⟨hP9, hD9⟩ := pd_sub [] [] hP hD (by decide) rfl
        have hK9 := hK.sub (tys' := []) [] rfl
        rw [hQQ]
        exact W.iret (v := v4_l1) hx hb hr (fun t ht hW => ⟨⟨v4_l1, (), rfl, rfl, by rw [ht]; exact hP9, va_K.moved hW.alike hK9, hD9⟩, hS.F ht⟩) hS.2.2 (zat zrX12_bits_0_ok 15 rfl)
      · have h := (if_neg c5).symm.trans h
        refine lv_iinc (v := (v4_l1 + (1 : Int32))) (lv' := [(1, .int (v4_l1 + (1 : Int32))), (2, .int v4_l2)]) hx hb (zat zrX12_bits_0_ok 6 rfl) hl (k := 1) rfl rfl (by decide) rfl (fun ls hl => ?_)
        refine lv_iload_n hx hb (zat zrX12_bits_0_ok 7 rfl) rfl (lv_at hl 1 rfl) ?_
        refine lv_iload_n hx hb (zat zrX12_bits_0_ok 8 rfl) rfl (lv_at hl 1 rfl) ?_
        refine lv_iconst (v := 1) hx hb (zat zrX12_bits_0_ok 9 rfl) (by decide) ?_
        refine lv_isub hx hb (zat zrX12_bits_0_ok 10 rfl) ?_
        refine lv_iand hx hb (zat zrX12_bits_0_ok 11 rfl) ?_
        refine lv_istore_n (lv' := [(2, .int (v4_l2 &&& (v4_l2 - (1 : Int32)))), (1, .int (v4_l1 + (1 : Int32)))]) hx hb (zat zrX12_bits_0_ok 12 rfl) rfl hl (by decide) rfl (fun ls hl => ?_)
        refine lv_goto (tgt := 4) hx hb (zat zrX12_bits_0_ok 13 rfl) (by decide) ?_
        exact ih4 (v4_l2 &&& (v4_l2 - (1 : Int32))) (v4_l1 + (1 : Int32)) H _ ls h  hP hD hS (lv_sub hl [0, 1] rfl)
  exact L4 FU k0 (0 : Int32) s.heap _ ls h  hP hD hS (lv_sub hl [0, 1] rfl)
noncomputable def zrX12_mostSeated_0 : List ZR := zc 0 true (.aload_n 0) 1 (zc 1 true (.iconst 0) 1 (zc 2 true (.putfield 36) 3 (zc 5 true (.aload_n 0) 1 (zc 6 true (.getfield 299) 3 (zc 9 true (.ifnonnull 9) 3 (zc 12 false (.nop) 6 (zc 18 true (.iconst 0) 1 (zc 19 true (.istore_n 1) 1 (zc 20 true (.iconst 1) 1 (zc 21 true (.istore_n 2) 1 (zc 22 true (.iload_n 2) 1 (zc 23 true (.aload_n 0) 1 (zc 24 true (.invokevirtual 405) 3 (zc 27 true (.if_icmp .gt 37) 3 (zc 30 true (.iload_n 2) 1 (zc 31 true (.invokestatic 411) 3 (zc 34 true (.iload_n 1) 1 (zc 35 true (.invokestatic 411) 3 (zc 38 true (.if_icmp .gt 6) 3 (zc 41 true (.goto 17) 3 (zc 44 true (.aload_n 0) 1 (zc 45 true (.iload_n 2) 1 (zc 46 true (.invokevirtual 408) 3 (zc 49 true (.aload_n 0) 1 (zc 50 true (.getfield 393) 3 (zc 53 true (.ifCond .le 5) 3 (zc 56 true (.iload_n 2) 1 (zc 57 true (.istore_n 1) 1 (zc 58 true (.iinc 2 1) 3 (zc 61 true (.goto (-39)) 3 (zc 64 true (.aload_n 0) 1 (zc 65 true (.iload_n 1) 1 (zc 66 true (.invokevirtual 46) 3 (zc 69 true (.ireturn) 1 ([])))))))))))))))))))))))))))))))))))
theorem zrX12_mostSeated_0_ok : zck 0 ((zby cX12_mostSeated).drop 0) zrX12_mostSeated_0 = true := by decide +kernel
def vfX12_mostSeated : List Cond := List.cons (.code yX12_mostSeated cX12_mostSeated 3 (some .int)) (apW [.fieldLink RX12 36 "HookPierModel" "thrown" "I", .fieldLink RX12 299 "HookPierModel" "pier" "LHookPierModel$Pier;", .methodLink RX12 405 yX12_allAskers, .instanceMethod yX12_allAskers, .selects RX12 yX12_allAskers yX12_allAskers, .initialized RX12, .methodLink RX12 46 yX12_good, .instanceMethod yX12_good, .selects RX12 yX12_good yX12_good, .methodLink RX12 411 yX12_bits, .static yX12_bits, .methodLink RX12 408 yX12_seats, .instanceMethod yX12_seats, .selects RX12 yX12_seats yX12_seats, .fieldLink RX12 393 "HookPierModel" "seatings" "I"] (apW wsX120 (apW vfX12_allAskers (apW vfX12_good (apW vfX12_bits (vfX12_seats))))))
theorem ifX12_mostSeated_X12 : ∀ w ∈ wsX120, w ∈ vfX12_mostSeated := fun _ h => (List.mem_cons_of_mem _ (List.mem_append_right _ (List.mem_append_left _ h)))
theorem qfX12_mostSeated : Good vfX12_mostSeated := gd_cons (by decide +kernel) (gd_app (gd_dec (by decide +kernel) : Good [.fieldLink RX12 36 "HookPierModel" "thrown" "I", .fieldLink RX12 299 "HookPierModel" "pier" "LHookPierModel$Pier;", .methodLink RX12 405 yX12_allAskers, .instanceMethod yX12_allAskers, .selects RX12 yX12_allAskers yX12_allAskers, .initialized RX12, .methodLink RX12 46 yX12_good, .instanceMethod yX12_good, .selects RX12 yX12_good yX12_good, .methodLink RX12 411 yX12_bits, .static yX12_bits, .methodLink RX12 408 yX12_seats, .instanceMethod yX12_seats, .selects RX12 yX12_seats yX12_seats, .fieldLink RX12 393 "HookPierModel" "seatings" "I"]) (gd_app qsX12 (gd_app qfX12_allAskers (gd_app qfX12_good (gd_app qfX12_bits qfX12_seats)))))
theorem gfX12_mostSeated_0 : GoodIn vfX12_mostSeated (wsV RX12 405 RX12 yX12_allAskers vfX12_allAskers) := goodIn_app (goodIn_r [.methodLink RX12 405 yX12_allAskers, .instanceMethod yX12_allAskers, .selects RX12 yX12_allAskers yX12_allAskers, .initialized RX12] [3, 4, 5, 6] rfl (by decide +kernel)) (goodIn_m (fun _ h => (List.mem_cons_of_mem _ (List.mem_append_right _ (List.mem_append_right _ (List.mem_append_left _ h))))) qfX12_allAskers)
theorem gfX12_mostSeated_1 : GoodIn vfX12_mostSeated (wsV RX12 46 RX12 yX12_good vfX12_good) := goodIn_app (goodIn_r [.methodLink RX12 46 yX12_good, .instanceMethod yX12_good, .selects RX12 yX12_good yX12_good, .initialized RX12] [7, 8, 9, 6] rfl (by decide +kernel)) (goodIn_m (fun _ h => (List.mem_cons_of_mem _ (List.mem_append_right _ (List.mem_append_right _ (List.mem_append_right _ (List.mem_append_left _ h)))))) qfX12_good)
theorem gfX12_mostSeated_2 : GoodIn vfX12_mostSeated (va_wsS RX12 411 yX12_bits vfX12_bits) := goodIn_app (goodIn_r [.methodLink RX12 411 yX12_bits, .static yX12_bits, .initialized RX12] [10, 11, 6] rfl (by decide +kernel)) (goodIn_m (fun _ h => (List.mem_cons_of_mem _ (List.mem_append_right _ (List.mem_append_right _ (List.mem_append_right _ (List.mem_append_right _ (List.mem_append_left _ h))))))) qfX12_bits)
theorem gfX12_mostSeated_3 : GoodIn vfX12_mostSeated (wsV RX12 408 RX12 yX12_seats vfX12_seats) := goodIn_app (goodIn_r [.methodLink RX12 408 yX12_seats, .instanceMethod yX12_seats, .selects RX12 yX12_seats yX12_seats, .initialized RX12] [12, 13, 14, 6] rfl (by decide +kernel)) (goodIn_m (fun _ h => (List.mem_cons_of_mem _ (List.mem_append_right _ (List.mem_append_right _ (List.mem_append_right _ (List.mem_append_right _ (List.mem_append_right _ h))))))) qfX12_seats)
set_option maxHeartbeats 2000000 in
set_option maxRecDepth 100000 in
theorem kfX12_mostSeated (l : Launch) (dC : Nat → ClassId) (dI : Nat → Nat → Nat) (a0 : Nat) (a1 : Nat) (a2 : Nat) (a3 : Nat) (uq : Nat → Nat) (kq : Nat → ClassId) (m_t : TX12_t) (m_z : TX12_z) (g8 : Value) (g9 : Value) (g10 : Value) (g11 : Value) (g12 : Value) (g13 : Value) (g14 : Value) (g15 : Value) (g16 : Value) (g17 : Value) (g18 : Value) (g19 : Value) (g20 : Value) (g21 : Value) (g22 : Value) (g23 : Value) (g24 : Value) (g25 : Value) (g26 : Value) (g27 : Value) (g28 : Value) (g29 : Value) (g30 : Value) (q_q : TX11_q) (cB32 : ClassId) (cB33 : ClassId) (sz : Nat) (out : (Int32 × TX12_t × TX12_z)) (h : f_X12_mostSeated m_t m_z q_q = some out) : KCi l yX12_mostSeated vfX12_mostSeated ({ frames := 4, cells := 0, slots := 0, locals := 92 }) (dC, dI) [.ref a0] sz ((a0, .inr (9, [.int m_t.1, .int m_t.2.1, .int m_t.2.2, .ref a1, g8, g9, g10, g11, g12, g13, g14, g15, g16, g17, g18, g19, g20, g21, g22, g23, g24, .ref a2, .ref a3, .int m_z.2.2, g25, g26, g27, g28, g29, g30])) :: bX11 a1 uq kq q_q ([(a2, .inl (cB32, 5, .inl m_z.1)), (a3, .inl (cB33, 5, .inl m_z.2.1))])) (tX11 kq ((cB32, .int) :: (cB33, .int) :: [])) (fun (r : Int32) _ => r = out.1) ((a0, .inr (9, [.int out.2.1.1, .int out.2.1.2.1, .int out.2.1.2.2, .ref a1, g8, g9, g10, g11, g12, g13, g14, g15, g16, g17, g18, g19, g20, g21, g22, g23, g24, .ref a2, .ref a3, .int out.2.2.2.2, g25, g26, g27, g28, g29, g30])) :: bX11 a1 uq kq q_q ([(a2, .inl (cB32, 5, .inl out.2.2.1)), (a3, .inl (cB33, 5, .inl out.2.2.2.1))])) 0 0 := by
  refine Met.ofW (cc := cX12_mostSeated) (maxL := 3) (ret := (some .int)) (by decide) rfl ?_
  intro p e s m args below meth c s₁ B0 hml hv
  obtain ⟨rfl, hsz, hP, hK, hD0, hN⟩ := hv
  have hx := B0.exec
  have hb := B0.bytes
  have hr := B0.returns
  have hts := atoms_spec (ws := vfX12_mostSeated) B0.pre
  have hown : s.vm.findClass RX12 = some m.cls := findClass_of_methodNamed B0.named
  have hlocks := B0.notSynchronized
  subst hsz
  have hD := hD0.self (sz := s.heap.size)
  generalize hAe : va_A ((a0, .inr (9, [.int m_t.1, .int m_t.2.1, .int m_t.2.2, .ref a1, g8, g9, g10, g11, g12, g13, g14, g15, g16, g17, g18, g19, g20, g21, g22, g23, g24, .ref a2, .ref a3, .int m_z.2.2, g25, g26, g27, g28, g29, g30])) :: bX11 a1 uq kq q_q ([(a2, .inl (cB32, 5, .inl m_z.1)), (a3, .inl (cB33, 5, .inl m_z.2.1))])) s.heap.size = A at hD ⊢
  have hA : ∀ q : Nat, s.heap.size ≤ q → A q := fun q h => by rw [← hAe]; exact Or.inr h
  have hS : va_S A s.heap s.heap [] := va_S.rf
  have hP : va_P (dC, dI) vwCl ((a0, .inr (9, [.int m_t.1, .int m_t.2.1, .int m_t.2.2, .ref a1, g8, g9, g10, g11, g12, g13, g14, g15, g16, g17, g18, g19, g20, g21, g22, g23, g24, .ref a2, .ref a3, .int m_z.2.2, g25, g26, g27, g28, g29, g30])) :: bX11 a1 uq kq q_q ([(a2, .inl (cB32, 5, .inl m_z.1)), (a3, .inl (cB33, 5, .inl m_z.2.1))])) s.heap := hP
  have hl := lv_entry ([.ref a0]) (n := 3) (Nat.le_of_ble_eq_true rfl)
  rw [lg_entry_eq]
  generalize (lg_sl ([.ref a0]) ++ List.replicate (3 - (lg_sl ([.ref a0])).length) Slot.unset).toArray = ls at hl ⊢
  have hl : lv_has ls 3 [(0, .ref a0)] := hl
  refine W_q (fun QQ hQQ => ?_)
  rw [f_X12_mostSeated] at h
  refine lv_aload_n hx hb (zat zrX12_mostSeated_0_ok 0 rfl) rfl (lv_at hl 0 rfl) ?_
  refine lv_iconst (v := 0) hx hb (zat zrX12_mostSeated_0_ok 1 rfl) (by decide) ?_
  refine va_put (D := (dC, dI)) (ci := 9) (v := .int 0) (ty := .int) (C := RX12) (T := TX12) (N := 30) hx hb hts ifX12_mostSeated_X12 tyX12 tyX12_ok nmX12 hown hK hP hD hS 0 rfl rfl 0 (by decide) (hts (.fieldLink RX12 36 "HookPierModel" "thrown" "I") (List.mem_of_getElem? (i := 1) rfl)) (fun _ h9 => h9) rfl (by decide +kernel) rfl rfl (Nat.le_of_ble_eq_true rfl) (zat zrX12_mostSeated_0_ok 2 rfl) (fun H locs hP hD hS => ?_)
  obtain ⟨hP, hD⟩ := pd_mk ((a0, .inr (9, [.int 0, .int m_t.2.1, .int m_t.2.2, .ref a1, g8, g9, g10, g11, g12, g13, g14, g15, g16, g17, g18, g19, g20, g21, g22, g23, g24, .ref a2, .ref a3, .int m_z.2.2, g25, g26, g27, g28, g29, g30])) :: bX11 a1 uq kq q_q ([(a2, .inl (cB32, 5, .inl m_z.1)), (a3, .inl (cB33, 5, .inl m_z.2.1))])) hP hD
  refine lv_aload_n hx hb (zat zrX12_mostSeated_0_ok 3 rfl) rfl (lv_at hl 0 rfl) ?_
  refine va_get (D := (dC, dI)) (ci := 9) (v := .ref a1) (C := RX12) (T := TX12) (N := 30) hx hb hts ifX12_mostSeated_X12 hown hK hP 0 rfl rfl 3 (by decide) (hts (.fieldLink RX12 299 "HookPierModel" "pier" "LHookPierModel$Pier;") (List.mem_of_getElem? (i := 2) rfl)) (fun _ h9 => h9) rfl (zat zrX12_mostSeated_0_ok 4 rfl) ?_
  refine lv_ifnonnull (tgt := 18) hx hb (zat zrX12_mostSeated_0_ok 5 rfl) (by decide) ?_
  refine lv_iconst (v := 0) hx hb (zat zrX12_mostSeated_0_ok 7 rfl) (by decide) ?_
  refine lv_istore_n (lv' := [(1, .int 0), (0, .ref a0)]) hx hb (zat zrX12_mostSeated_0_ok 8 rfl) rfl hl (by decide) rfl (fun ls hl => ?_)
  refine lv_iconst (v := 1) hx hb (zat zrX12_mostSeated_0_ok 9 rfl) (by decide) ?_
  refine lv_istore_n (lv' := [(2, .int 1), (1, .int 0), (0, .ref a0)]) hx hb (zat zrX12_mostSeated_0_ok 10 rfl) rfl hl (by decide) rfl (fun ls hl => ?_)
  have L22 : ∀ (n22 : Nat) (v22_l2 : Int32) (v22_l1 : Int32) (v22_m_z : TX12_z) (H : Heap) (locs : List Loc) (ls : Array Slot), f_X12_mostSeated_L22 m_t q_q n22 v22_l2 v22_l1 v22_m_z = some out → va_P (dC, dI) vwCl ((a0, .inr (9, [.int 0, .int m_t.2.1, .int m_t.2.2, .ref a1, g8, g9, g10, g11, g12, g13, g14, g15, g16, g17, g18, g19, g20, g21, g22, g23, g24, .ref a2, .ref a3, .int v22_m_z.2.2, g25, g26, g27, g28, g29, g30])) :: bX11 a1 uq kq q_q ([(a2, .inl (cB32, 5, .inl v22_m_z.1)), (a3, .inl (cB33, 5, .inl v22_m_z.2.1))])) H → va_D A ((a0, .inr (9, [.int 0, .int m_t.2.1, .int m_t.2.2, .ref a1, g8, g9, g10, g11, g12, g13, g14, g15, g16, g17, g18, g19, g20, g21, g22, g23, g24, .ref a2, .ref a3, .int v22_m_z.2.2, g25, g26, g27, g28, g29, g30])) :: bX11 a1 uq kq q_q ([(a2, .inl (cB32, 5, .inl v22_m_z.1)), (a3, .inl (cB33, 5, .inl v22_m_z.2.1))])) → va_S A s.heap H locs → lv_has ls 3 [(2, .int v22_l2), (1, .int v22_l1), (0, .ref a0)] → W p l e (headSpec vfX12_mostSeated { frames := 4, cells := 0, slots := 0, locals := 92 }).room s m ([.ref a0]).toArray below meth c H locs 0 0 QQ (F0 m 22 ls []) := by
    intro n22
    induction n22 with
    | zero =>
      intro v22_l2 v22_l1 v22_m_z H locs ls h  _ _ _ _
      rw [f_X12_mostSeated_L22] at h
      cases h
    | succ n22 ih22 =>
      intro v22_l2 v22_l1 v22_m_z H locs ls h  hP hD hS hl
      rw [f_X12_mostSeated_L22] at h
      refine lv_iload_n hx hb (zat zrX12_mostSeated_0_ok 11 rfl) rfl (lv_at hl 0 rfl) ?_
      refine lv_aload_n hx hb (zat zrX12_mostSeated_0_ok 12 rfl) rfl (lv_at hl 2 rfl) ?_
      obtain ⟨o24, eo24⟩ : ∃ o, o = f_X12_allAskers q_q := ⟨_, rfl⟩
      have h := nm_of h o24 eo24
      refine ck_i (wc := ((a0, .inr (9, [.int 0, .int m_t.2.1, .int m_t.2.2, .ref a1, g8, g9, g10, g11, g12, g13, g14, g15, g16, g17, g18, g19, g20, g21, g22, g23, g24, .ref a2, .ref a3, .int v22_m_z.2.2, g25, g26, g27, g28, g29, g30])) :: bX11 a1 uq kq q_q [])) (wr := ([(a2, .inl (cB32, 5, .inl v22_m_z.1)), (a3, .inl (cB33, 5, .inl v22_m_z.2.1))])) hP hD hK hS hA [0, 1, 2, 3, 4, 5, 6, 7, 8, 9, 10, 11, 12, 13, 14, 15] [16, 17] rfl rfl (by decide) (by decide) (by decide) (fun hPc hDc => (va_runV (As := []) (rest := [.int v22_l2]) ⟨hx, hb, hml, hown, hts⟩ (kfX12_allAskers l dC dI a0 a1 uq kq (.int 0) (.int m_t.2.1) (.int m_t.2.2) (g8) (g9) (g10) (g11) (g12) (g13) (g14) (g15) (g16) (g17) (g18) (g19) (g20) (g21) (g22) (g23) (g24) (.ref a2) (.ref a3) (.int v22_m_z.2.2) (g25) (g26) (g27) (g28) (g29) (g30) q_q H.size o24 eo24.symm) (cwV 0 hts gfX12_mostSeated_0 rfl rfl rfl (by decide +kernel) ⟨(Nat.le_of_ble_eq_true rfl), (Nat.le_of_ble_eq_true rfl)⟩) (PV hPc (hK.sub (tys' := (tX11 kq ([]))) [0, 1, 2, 3, 4, 5, 6, 7, 8, 9, 10, 11, 12, 13] rfl) hDc hN 0 rfl rfl) rfl rfl hl.1 rfl (lv_room (Nat.le_of_ble_eq_true rfl)) (zat zrX12_mostSeated_0_ok 13 rfl) ⟨(Nat.le_of_ble_eq_true rfl), (Nat.le_of_ble_eq_true rfl)⟩)) (fun r24 _ H locs hw hP hD _ hS => ?_)
      obtain rfl := hw.symm
      obtain ⟨hP, hD⟩ := pd_mk ((a2, .inl (cB32, 5, .inl v22_m_z.1)) :: (a3, .inl (cB33, 5, .inl v22_m_z.2.1)) :: (a0, .inr (9, [.int 0, .int m_t.2.1, .int m_t.2.2, .ref a1, g8, g9, g10, g11, g12, g13, g14, g15, g16, g17, g18, g19, g20, g21, g22, g23, g24, .ref a2, .ref a3, .int v22_m_z.2.2, g25, g26, g27, g28, g29, g30])) :: bX11 a1 uq kq q_q []) hP hD
      refine lv_icmp_gt (tgt := 64) hx hb (zat zrX12_mostSeated_0_ok 14 rfl) (by decide) (fun c27 => ?_) (fun c27 => ?_)
      · have h := (if_pos c27).symm.trans h
        refine lv_aload_n hx hb (zat zrX12_mostSeated_0_ok 31 rfl) rfl (lv_at hl 2 rfl) ?_
        refine lv_iload_n hx hb (zat zrX12_mostSeated_0_ok 32 rfl) rfl (lv_at hl 1 rfl) ?_
        obtain ⟨o66, eo66⟩ : ∃ o, o = f_X12_good v22_l1 ((0 : Int32), m_t.2) := ⟨_, rfl⟩
        have h := nm_of h o66 eo66
        refine ck_i (wc := ([(a0, .inr (9, [.int 0, .int m_t.2.1, .int m_t.2.2, .ref a1, g8, g9, g10, g11, g12, g13, g14, g15, g16, g17, g18, g19, g20, g21, g22, g23, g24, .ref a2, .ref a3, .int v22_m_z.2.2, g25, g26, g27, g28, g29, g30]))])) (wr := ((a2, .inl (cB32, 5, .inl v22_m_z.1)) :: (a3, .inl (cB33, 5, .inl v22_m_z.2.1)) :: bX11 a1 uq kq q_q [])) hP hD hK hS hA [2] [0, 1, 3, 4, 5, 6, 7, 8, 9, 10, 11, 12, 13, 14, 15, 16, 17] rfl rfl (by decide) (by decide) (by decide) (fun hPc hDc => (va_runV (As := [.int v22_l1]) (rest := []) ⟨hx, hb, hml, hown, hts⟩ (kfX12_good l dC dI a0 v22_l1 ((0 : Int32), m_t.2) (.ref a1) (g8) (g9) (g10) (g11) (g12) (g13) (g14) (g15) (g16) (g17) (g18) (g19) (g20) (g21) (g22) (g23) (g24) (.ref a2) (.ref a3) (.int v22_m_z.2.2) (g25) (g26) (g27) (g28) (g29) (g30) H.size o66 eo66.symm) (cwV 1 hts gfX12_mostSeated_1 rfl rfl rfl (by decide +kernel) ⟨(Nat.le_of_ble_eq_true rfl), (Nat.le_of_ble_eq_true rfl)⟩) (PV hPc (hK.sub (tys' := ([])) [] rfl) hDc hN 0 rfl rfl) rfl rfl hl.1 rfl (lv_room (Nat.le_of_ble_eq_true rfl)) (zat zrX12_mostSeated_0_ok 33 rfl) ⟨(Nat.le_of_ble_eq_true rfl), (Nat.le_of_ble_eq_true rfl)⟩)) (fun r66 _ H locs hw hP hD _ hS => ?_)
        obtain rfl := hw
        obtain ⟨hP, hD⟩ := pd_mk ((a2, .inl (cB32, 5, .inl v22_m_z.1)) :: (a3, .inl (cB33, 5, .inl v22_m_z.2.1)) :: bX11 a1 uq kq q_q ([(a0, .inr (9, [.int o66.2.1, .int o66.2.2.1, .int o66.2.2.2, .ref a1, g8, g9, g10, g11, g12, g13, g14, g15, g16, g17, g18, g19, g20, g21, g22, g23, g24, .ref a2, .ref a3, .int v22_m_z.2.2, g25, g26, g27, g28, g29, g30]))])) hP hD
        obtain rfl := Option.some.inj h
        obtain ⟨hP9, hD9⟩ := pd_sub ((a0, .inr (9, [.int o66.2.1, .int o66.2.2.1, .int o66.2.2.2, .ref a1, g8, g9, g10, g11, g12, g13, g14, g15, g16, g17, g18, g19, g20, g21, g22, g23, g24, .ref a2, .ref a3, .int v22_m_z.2.2, g25, g26, g27, g28, g29, g30])) :: bX11 a1 uq kq q_q ([(a2, .inl (cB32, 5, .inl v22_m_z.1)), (a3, .inl (cB33, 5, .inl v22_m_z.2.1))])) [17, 2, 3, 4, 5, 6, 7, 8, 9, 10, 11, 12, 13, 14, 15, 16, 0, 1] hP hD (by decide) rfl
        have hK9 := hK.sub (tys' := []) [] rfl
        rw [hQQ]
        exact W.iret (v := o66.1) hx hb hr (fun t ht hW => ⟨⟨o66.1, (), rfl, rfl, by rw [ht]; exact hP9, va_K.moved hW.alike hK9, hD9⟩, hS.F ht⟩) hS.2.2 (zat zrX12_mostSeated_0_ok 34 rfl)
      · have h := (if_neg c27).symm.trans h
        refine lv_iload_n hx hb (zat zrX12_mostSeated_0_ok 15 rfl) rfl (lv_at hl 0 rfl) ?_
        obtain ⟨o31, eo31, h⟩ := bd_of h
        refine ck_i (wc := []) (wr := ((a2, .inl (cB32, 5, .inl v22_m_z.1)) :: (a3, .inl (cB33, 5, .inl v22_m_z.2.1)) :: (a0, .inr (9, [.int 0, .int m_t.2.1, .int m_t.2.2, .ref a1, g8, g9, g10, g11, g12, g13, g14, g15, g16, g17, g18, g19, g20, g21, g22, g23, g24, .ref a2, .ref a3, .int v22_m_z.2.2, g25, g26, g27, g28, g29, g30])) :: bX11 a1 uq kq q_q [])) hP hD hK hS hA [] [0, 1, 2, 3, 4, 5, 6, 7, 8, 9, 10, 11, 12, 13, 14, 15, 16, 17] rfl rfl (by decide) (by decide) (by decide) (fun hPc hDc => (va_runS (As := [.int v22_l2]) (rest := []) ⟨hx, hb, hml, hown, hts⟩ (kfX12_bits l dC dI v22_l2 H.size o31 eo31) (va_cwS 1 hts gfX12_mostSeated_2 rfl rfl rfl (by decide +kernel) ⟨(Nat.le_of_ble_eq_true rfl), (Nat.le_of_ble_eq_true rfl)⟩) (PS hPc (hK.sub (tys' := ([])) [] rfl) hDc hN) rfl rfl hl.1 rfl (lv_room (Nat.le_of_ble_eq_true rfl)) (zat zrX12_mostSeated_0_ok 16 rfl) ⟨(Nat.le_of_ble_eq_true rfl), (Nat.le_of_ble_eq_true rfl)⟩)) (fun r31 _ H locs hw hP hD _ hS => ?_)
        obtain rfl := hw.symm
        obtain ⟨hP, hD⟩ := pd_mk ((a2, .inl (cB32, 5, .inl v22_m_z.1)) :: (a3, .inl (cB33, 5, .inl v22_m_z.2.1)) :: (a0, .inr (9, [.int 0, .int m_t.2.1, .int m_t.2.2, .ref a1, g8, g9, g10, g11, g12, g13, g14, g15, g16, g17, g18, g19, g20, g21, g22, g23, g24, .ref a2, .ref a3, .int v22_m_z.2.2, g25, g26, g27, g28, g29, g30])) :: bX11 a1 uq kq q_q []) hP hD
        refine lv_iload_n hx hb (zat zrX12_mostSeated_0_ok 17 rfl) rfl (lv_at hl 1 rfl) ?_
        obtain ⟨o35, eo35, h⟩ := bd_of h
        refine ck_i (wc := []) (wr := ((a2, .inl (cB32, 5, .inl v22_m_z.1)) :: (a3, .inl (cB33, 5, .inl v22_m_z.2.1)) :: (a0, .inr (9, [.int 0, .int m_t.2.1, .int m_t.2.2, .ref a1, g8, g9, g10, g11, g12, g13, g14, g15, g16, g17, g18, g19, g20, g21, g22, g23, g24, .ref a2, .ref a3, .int v22_m_z.2.2, g25, g26, g27, g28, g29, g30])) :: bX11 a1 uq kq q_q [])) hP hD hK hS hA [] [0, 1, 2, 3, 4, 5, 6, 7, 8, 9, 10, 11, 12, 13, 14, 15, 16, 17] rfl rfl (by decide) (by decide) (by decide) (fun hPc hDc => (va_runS (As := [.int v22_l1]) (rest := [.int o31]) ⟨hx, hb, hml, hown, hts⟩ (kfX12_bits l dC dI v22_l1 H.size o35 eo35) (va_cwS 1 hts gfX12_mostSeated_2 rfl rfl rfl (by decide +kernel) ⟨(Nat.le_of_ble_eq_true rfl), (Nat.le_of_ble_eq_true rfl)⟩) (PS hPc (hK.sub (tys' := ([])) [] rfl) hDc hN) rfl rfl hl.1 rfl (lv_room (Nat.le_of_ble_eq_true rfl)) (zat zrX12_mostSeated_0_ok 18 rfl) ⟨(Nat.le_of_ble_eq_true rfl), (Nat.le_of_ble_eq_true rfl)⟩)) (fun r35 _ H locs hw hP hD _ hS => ?_)
        obtain rfl := hw.symm
        obtain ⟨hP, hD⟩ := pd_mk ((a2, .inl (cB32, 5, .inl v22_m_z.1)) :: (a3, .inl (cB33, 5, .inl v22_m_z.2.1)) :: (a0, .inr (9, [.int 0, .int m_t.2.1, .int m_t.2.2, .ref a1, g8, g9, g10, g11, g12, g13, g14, g15, g16, g17, g18, g19, g20, g21, g22, g23, g24, .ref a2, .ref a3, .int v22_m_z.2.2, g25, g26, g27, g28, g29, g30])) :: bX11 a1 uq kq q_q []) hP hD
        have J58 : ∀ (v58_l1 : Int32) (v58_m_z : TX12_z) (H : Heap) (locs : List Loc) (ls : Array Slot), f_X12_mostSeated_J58 (f_X12_mostSeated_L22 m_t q_q n22) v22_l2 v58_l1 v58_m_z = some out → va_P (dC, dI) vwCl ((a0, .inr (9, [.int 0, .int m_t.2.1, .int m_t.2.2, .ref a1, g8, g9, g10, g11, g12, g13, g14, g15, g16, g17, g18, g19, g20, g21, g22, g23, g24, .ref a2, .ref a3, .int v58_m_z.2.2, g25, g26, g27, g28, g29, g30])) :: bX11 a1 uq kq q_q ([(a2, .inl (cB32, 5, .inl v58_m_z.1)), (a3, .inl (cB33, 5, .inl v58_m_z.2.1))])) H → va_D A ((a0, .inr (9, [.int 0, .int m_t.2.1, .int m_t.2.2, .ref a1, g8, g9, g10, g11, g12, g13, g14, g15, g16, g17, g18, g19, g20, g21, g22, g23, g24, .ref a2, .ref a3, .int v58_m_z.2.2, g25, g26, g27, g28, g29, g30])) :: bX11 a1 uq kq q_q ([(a2, .inl (cB32, 5, .inl v58_m_z.1)), (a3, .inl (cB33, 5, .inl v58_m_z.2.1))])) → va_S A s.heap H locs → lv_has ls 3 [(2, .int v22_l2), (1, .int v58_l1), (0, .ref a0)] → W p l e (headSpec vfX12_mostSeated { frames := 4, cells := 0, slots := 0, locals := 92 }).room s m ([.ref a0]).toArray below meth c H locs 0 0 QQ (F0 m 58 ls []) := by
          intro v58_l1 v58_m_z H locs ls h  hP hD hS hl
          rw [f_X12_mostSeated_J58] at h
          refine lv_iinc (v := (v22_l2 + (1 : Int32))) (lv' := [(2, .int (v22_l2 + (1 : Int32))), (1, .int v58_l1), (0, .ref a0)]) hx hb (zat zrX12_mostSeated_0_ok 29 rfl) hl (k := 0) rfl rfl (by decide) rfl (fun ls hl => ?_)
          refine lv_goto (tgt := 22) hx hb (zat zrX12_mostSeated_0_ok 30 rfl) (by decide) ?_
          exact ih22 (v22_l2 + (1 : Int32)) v58_l1 v58_m_z H _ ls h  hP hD hS (lv_sub hl [0, 1, 2] rfl)
        refine lv_icmp_gt (tgt := 44) hx hb (zat zrX12_mostSeated_0_ok 19 rfl) (by decide) (fun c38 => ?_) (fun c38 => ?_)
        · have h := (if_pos c38).symm.trans h
          refine lv_aload_n hx hb (zat zrX12_mostSeated_0_ok 21 rfl) rfl (lv_at hl 2 rfl) ?_
          refine lv_iload_n hx hb (zat zrX12_mostSeated_0_ok 22 rfl) rfl (lv_at hl 0 rfl) ?_
          obtain ⟨o46, eo46, h⟩ := bd_of h
          refine ck_v (wc := ((a0, .inr (9, [.int 0, .int m_t.2.1, .int m_t.2.2, .ref a1, g8, g9, g10, g11, g12, g13, g14, g15, g16, g17, g18, g19, g20, g21, g22, g23, g24, .ref a2, .ref a3, .int v22_m_z.2.2, g25, g26, g27, g28, g29, g30])) :: bX11 a1 uq kq q_q ([(a2, .inl (cB32, 5, .inl v22_m_z.1)), (a3, .inl (cB33, 5, .inl v22_m_z.2.1))]))) (wr := []) hP hD hK hS hA [2, 3, 4, 5, 6, 7, 8, 9, 10, 11, 12, 13, 14, 15, 16, 17, 0, 1] [] rfl rfl (by decide) (by decide) (by decide) (fun hPc hDc => (va_runV (As := [.int v22_l2]) (rest := []) ⟨hx, hb, hml, hown, hts⟩ (kfX12_seats l dC dI a0 v22_l2 a1 a2 a3 uq kq v22_m_z (.int 0) (.int m_t.2.1) (.int m_t.2.2) (g8) (g9) (g10) (g11) (g12) (g13) (g14) (g15) (g16) (g17) (g18) (g19) (g20) (g21) (g22) (g23) (g24) (g25) (g26) (g27) (g28) (g29) (g30) q_q cB32 cB33 H.size o46 eo46) (cwV 1 hts gfX12_mostSeated_3 rfl rfl rfl (by decide +kernel) ⟨(Nat.le_of_ble_eq_true rfl), (Nat.le_of_ble_eq_true rfl)⟩) (PV hPc (hK.sub (tys' := (tX11 kq ((cB32, .int) :: (cB33, .int) :: []))) [0, 1, 2, 3, 4, 5, 6, 7, 8, 9, 10, 11, 12, 13, 14, 15] rfl) hDc hN 0 rfl rfl) rfl rfl hl.1 rfl (lv_room (Nat.le_of_ble_eq_true rfl)) (zat zrX12_mostSeated_0_ok 23 rfl) ⟨(Nat.le_of_ble_eq_true rfl), (Nat.le_of_ble_eq_true rfl)⟩)) (fun _ H locs hw hP hD _ hS => ?_)
          obtain ⟨hP, hD⟩ := pd_mk ((a0, .inr (9, [.int 0, .int m_t.2.1, .int m_t.2.2, .ref a1, g8, g9, g10, g11, g12, g13, g14, g15, g16, g17, g18, g19, g20, g21, g22, g23, g24, .ref a2, .ref a3, .int o46.2.2, g25, g26, g27, g28, g29, g30])) :: bX11 a1 uq kq q_q ([(a2, .inl (cB32, 5, .inl o46.1)), (a3, .inl (cB33, 5, .inl o46.2.1))])) hP hD
          refine lv_aload_n hx hb (zat zrX12_mostSeated_0_ok 24 rfl) rfl (lv_at hl 2 rfl) ?_
          refine va_get (D := (dC, dI)) (ci := 9) (v := .int o46.2.2) (C := RX12) (T := TX12) (N := 30) hx hb hts ifX12_mostSeated_X12 hown hK hP 0 rfl rfl 23 (by decide) (hts (.fieldLink RX12 393 "HookPierModel" "seatings" "I") (List.mem_of_getElem? (i := 15) rfl)) (fun _ h9 => h9) rfl (zat zrX12_mostSeated_0_ok 25 rfl) ?_
          refine lv_if_le (tgt := 58) hx hb (zat zrX12_mostSeated_0_ok 26 rfl) (by decide) (fun c53 => ?_) (fun c53 => ?_)
          · have h := (if_pos c53).symm.trans h
            exact J58 v22_l1 o46 H _ ls h  hP hD hS (lv_sub hl [0, 1, 2] rfl)
          · have h := (if_neg c53).symm.trans h
            refine lv_iload_n hx hb (zat zrX12_mostSeated_0_ok 27 rfl) rfl (lv_at hl 0 rfl) ?_
            refine lv_istore_n (lv' := [(1, .int v22_l2), (2, .int v22_l2), (0, .ref a0)]) hx hb (zat zrX12_mostSeated_0_ok 28 rfl) rfl hl (by decide) rfl (fun ls hl => ?_)
            exact J58 v22_l2 o46 H _ ls h  hP hD hS (lv_sub hl [1, 0, 2] rfl)
        · have h := (if_neg c38).symm.trans h
          refine lv_goto (tgt := 58) hx hb (zat zrX12_mostSeated_0_ok 20 rfl) (by decide) ?_
          exact J58 v22_l1 v22_m_z H _ ls h  (hP.sub (ws' := ((a0, .inr (9, [.int 0, .int m_t.2.1, .int m_t.2.2, .ref a1, g8, g9, g10, g11, g12, g13, g14, g15, g16, g17, g18, g19, g20, g21, g22, g23, g24, .ref a2, .ref a3, .int v22_m_z.2.2, g25, g26, g27, g28, g29, g30])) :: bX11 a1 uq kq q_q ([(a2, .inl (cB32, 5, .inl v22_m_z.1)), (a3, .inl (cB33, 5, .inl v22_m_z.2.1))]))) [2, 3, 4, 5, 6, 7, 8, 9, 10, 11, 12, 13, 14, 15, 16, 17, 0, 1] rfl) (hD.sub (ws' := ((a0, .inr (9, [.int 0, .int m_t.2.1, .int m_t.2.2, .ref a1, g8, g9, g10, g11, g12, g13, g14, g15, g16, g17, g18, g19, g20, g21, g22, g23, g24, .ref a2, .ref a3, .int v22_m_z.2.2, g25, g26, g27, g28, g29, g30])) :: bX11 a1 uq kq q_q ([(a2, .inl (cB32, 5, .inl v22_m_z.1)), (a3, .inl (cB33, 5, .inl v22_m_z.2.1))]))) [2, 3, 4, 5, 6, 7, 8, 9, 10, 11, 12, 13, 14, 15, 16, 17, 0, 1] (by decide) rfl) hS (lv_sub hl [0, 1, 2] rfl)
  exact L22 FU (1 : Int32) (0 : Int32) m_z H _ ls h  hP hD hS (lv_sub hl [0, 1, 2] rfl)
noncomputable def zrX12_refusesDark_0 : List ZR := zc 0 true (.aload_n 0) 1 (zc 1 true (.getfield 299) 3 (zc 4 true (.ifnonnull 7) 3 (zc 7 false (.nop) 4 (zc 11 true (.aload_n 0) 1 (zc 12 true (.getfield 299) 3 (zc 15 true (.getfield 269) 3 (zc 18 true (.iconst (-1)) 1 (zc 19 true (.if_icmp .ne 8) 3 (zc 22 true (.bipush 6) 2 (zc 24 true (.goto 4) 3 (zc 27 true (.iconst 0) 1 (zc 28 true (.ireturn) 1 ([])))))))))))))
theorem zrX12_refusesDark_0_ok : zck 0 ((zby cX12_refusesDark).drop 0) zrX12_refusesDark_0 = true := by decide +kernel
def vfX12_refusesDark : List Cond := List.cons (.code yX12_refusesDark cX12_refusesDark 1 (some .int)) (apW [.fieldLink RX12 299 "HookPierModel" "pier" "LHookPierModel$Pier;"] (apW wsX120 (wsX110)))
theorem ifX12_refusesDark_X12 : ∀ w ∈ wsX120, w ∈ vfX12_refusesDark := fun _ h => (List.mem_cons_of_mem _ (List.mem_append_right _ (List.mem_append_left _ h)))
theorem ifX12_refusesDark_X11 : ∀ w ∈ wsX110, w ∈ vfX12_refusesDark := fun _ h => (List.mem_cons_of_mem _ (List.mem_append_right _ (List.mem_append_right _ h)))
theorem qfX12_refusesDark : Good vfX12_refusesDark := gd_cons (by decide +kernel) (gd_app (gd_dec (by decide +kernel) : Good [.fieldLink RX12 299 "HookPierModel" "pier" "LHookPierModel$Pier;"]) (gd_app qsX12 qsX11))
set_option maxHeartbeats 2000000 in
set_option maxRecDepth 100000 in
theorem kfX12_refusesDark (l : Launch) (dC : Nat → ClassId) (dI : Nat → Nat → Nat) (a0 : Nat) (a1 : Nat) (uq : Nat → Nat) (kq : Nat → ClassId) (g4 : Value) (g5 : Value) (g6 : Value) (g7 : Value) (g8 : Value) (g9 : Value) (g10 : Value) (g11 : Value) (g12 : Value) (g13 : Value) (g14 : Value) (g15 : Value) (g16 : Value) (g17 : Value) (g18 : Value) (g19 : Value) (g20 : Value) (g21 : Value) (g22 : Value) (g23 : Value) (g24 : Value) (g25 : Value) (g26 : Value) (g27 : Value) (g28 : Value) (g29 : Value) (g30 : Value) (g31 : Value) (g32 : Value) (q_q : TX11_q) (sz : Nat) (out : Int32) (h : f_X12_refusesDark q_q = out) : KDi l yX12_refusesDark vfX12_refusesDark ({ frames := 0, cells := 0, slots := 0, locals := 0 }) (dC, dI) [.ref a0] sz ((a0, .inr (9, [g4, g5, g6, .ref a1, g7, g8, g9, g10, g11, g12, g13, g14, g15, g16, g17, g18, g19, g20, g21, g22, g23, g24, g25, g26, g27, g28, g29, g30, g31, g32])) :: bX11 a1 uq kq q_q []) (tX11 kq ([])) (fun (r : Int32) _ => r = out) 0 0 := by
  refine Met.ofW (cc := cX12_refusesDark) (maxL := 1) (ret := (some .int)) (by decide) rfl ?_
  intro p e s m args below meth c s₁ B0 hml hv
  obtain ⟨rfl, hsz, hP, hK, hD0, hN⟩ := hv
  have hx := B0.exec
  have hb := B0.bytes
  have hr := B0.returns
  have hts := atoms_spec (ws := vfX12_refusesDark) B0.pre
  have hown : s.vm.findClass RX12 = some m.cls := findClass_of_methodNamed B0.named
  have hlocks := B0.notSynchronized
  subst hsz
  have hD := hD0.self (sz := s.heap.size)
  generalize hAe : va_A ((a0, .inr (9, [g4, g5, g6, .ref a1, g7, g8, g9, g10, g11, g12, g13, g14, g15, g16, g17, g18, g19, g20, g21, g22, g23, g24, g25, g26, g27, g28, g29, g30, g31, g32])) :: bX11 a1 uq kq q_q []) s.heap.size = A at hD ⊢
  have hA : ∀ q : Nat, s.heap.size ≤ q → A q := fun q h => by rw [← hAe]; exact Or.inr h
  have hS : va_S A s.heap s.heap [] := va_S.rf
  have hP : va_P (dC, dI) vwCl ((a0, .inr (9, [g4, g5, g6, .ref a1, g7, g8, g9, g10, g11, g12, g13, g14, g15, g16, g17, g18, g19, g20, g21, g22, g23, g24, g25, g26, g27, g28, g29, g30, g31, g32])) :: bX11 a1 uq kq q_q []) s.heap := hP
  have hl := lv_entry ([.ref a0]) (n := 1) (Nat.le_of_ble_eq_true rfl)
  rw [lg_entry_eq]
  generalize (lg_sl ([.ref a0]) ++ List.replicate (1 - (lg_sl ([.ref a0])).length) Slot.unset).toArray = ls at hl ⊢
  have hl : lv_has ls 1 [(0, .ref a0)] := hl
  refine W_q (fun QQ hQQ => ?_)
  rw [f_X12_refusesDark] at h
  refine lv_aload_n hx hb (zat zrX12_refusesDark_0_ok 0 rfl) rfl (lv_at hl 0 rfl) ?_
  refine va_get (D := (dC, dI)) (ci := 9) (v := .ref a1) (C := RX12) (T := TX12) (N := 30) hx hb hts ifX12_refusesDark_X12 hown hK hP 0 rfl rfl 3 (by decide) (hts (.fieldLink RX12 299 "HookPierModel" "pier" "LHookPierModel$Pier;") (List.mem_of_getElem? (i := 1) rfl)) (fun _ h9 => h9) rfl (zat zrX12_refusesDark_0_ok 1 rfl) ?_
  refine lv_ifnonnull (tgt := 11) hx hb (zat zrX12_refusesDark_0_ok 2 rfl) (by decide) ?_
  refine lv_aload_n hx hb (zat zrX12_refusesDark_0_ok 4 rfl) rfl (lv_at hl 0 rfl) ?_
  refine va_get (D := (dC, dI)) (ci := 9) (v := .ref a1) (C := RX12) (T := TX12) (N := 30) hx hb hts ifX12_refusesDark_X12 hown hK hP 0 rfl rfl 3 (by decide) (hts (.fieldLink RX12 299 "HookPierModel" "pier" "LHookPierModel$Pier;") (List.mem_of_getElem? (i := 1) rfl)) (fun _ h9 => h9) rfl (zat zrX12_refusesDark_0_ok 5 rfl) ?_
  refine va_getN (D := (dC, dI)) (ci := 8) (v := .int q_q.2.2.2.2.2.2.2.2.1) (C := RX11) (T := TX11) (N := 24) hx hb hts ifX12_refusesDark_X11 hown hK hP 1 rfl rfl 8 (by decide) (va_Nw.use rfl (hN.1 (.fieldLinkNest RX12 269 "HookPierModel$Pier" "dark" "I" "HookPierModel") (List.mem_of_getElem? (i := 30) rfl))) (fun _ h9 => h9) rfl (zat zrX12_refusesDark_0_ok 6 rfl) ?_
  refine lv_iconst (v := (-1)) hx hb (zat zrX12_refusesDark_0_ok 7 rfl) (by decide) ?_
  refine lv_icmp_ne (tgt := 27) hx hb (zat zrX12_refusesDark_0_ok 8 rfl) (by decide) (fun c19 => ?_) (fun c19 => ?_)
  · have h := (if_neg c19).symm.trans h
    refine lv_iconst (v := 0) hx hb (zat zrX12_refusesDark_0_ok 11 rfl) (by decide) ?_
    obtain rfl := h
    obtain ⟨hP9, hD9⟩ := pd_sub ((a0, .inr (9, [g4, g5, g6, .ref a1, g7, g8, g9, g10, g11, g12, g13, g14, g15, g16, g17, g18, g19, g20, g21, g22, g23, g24, g25, g26, g27, g28, g29, g30, g31, g32])) :: bX11 a1 uq kq q_q []) [0, 1, 2, 3, 4, 5, 6, 7, 8, 9, 10, 11, 12, 13, 14, 15] hP hD (by decide) rfl
    have hK9 := hK.sub (tys' := []) [] rfl
    rw [hQQ]
    exact W.iret (v := (0 : Int32)) hx hb hr (fun t ht hW => ⟨⟨(0 : Int32), (), rfl, rfl, by rw [ht]; exact hP9, va_K.moved hW.alike hK9, hD9⟩, hS.F ht⟩) hS.2.2 (zat zrX12_refusesDark_0_ok 12 rfl)
  · have h := (if_pos c19).symm.trans h
    refine lv_bipush (v := 6) hx hb (zat zrX12_refusesDark_0_ok 9 rfl) (by decide) ?_
    refine lv_goto (tgt := 28) hx hb (zat zrX12_refusesDark_0_ok 10 rfl) (by decide) ?_
    obtain rfl := h
    obtain ⟨hP9, hD9⟩ := pd_sub ((a0, .inr (9, [g4, g5, g6, .ref a1, g7, g8, g9, g10, g11, g12, g13, g14, g15, g16, g17, g18, g19, g20, g21, g22, g23, g24, g25, g26, g27, g28, g29, g30, g31, g32])) :: bX11 a1 uq kq q_q []) [0, 1, 2, 3, 4, 5, 6, 7, 8, 9, 10, 11, 12, 13, 14, 15] hP hD (by decide) rfl
    have hK9 := hK.sub (tys' := []) [] rfl
    rw [hQQ]
    exact W.iret (v := (6 : Int32)) hx hb hr (fun t ht hW => ⟨⟨(6 : Int32), (), rfl, rfl, by rw [ht]; exact hP9, va_K.moved hW.alike hK9, hD9⟩, hS.F ht⟩) hS.2.2 (zat zrX12_refusesDark_0_ok 12 rfl)
noncomputable def zrX11_darkWish_0 : List ZR := zc 0 true (.aload_n 0) 1 (zc 1 true (.getfield 9) 3 (zc 4 true (.iload_n 3) 1 (zc 5 true (.iload 6) 2 (zc 7 true (.if_icmp .ne 8) 3 (zc 10 true (.bipush 20) 2 (zc 12 true (.goto 4) 3 (zc 15 true (.iconst 0) 1 (zc 16 true (.iadd) 1 (zc 17 true (.bipush 10) 2 (zc 19 true (.iload_n 1) 1 (zc 20 true (.iload 4) 2 (zc 22 true (.invokestatic 66) 3 (zc 25 true (.imul) 1 (zc 26 true (.isub) 1 (zc 27 true (.bipush 8) 2 (zc 29 true (.iload_n 2) 1 (zc 30 true (.iload 5) 2 (zc 32 true (.invokestatic 66) 3 (zc 35 true (.imul) 1 (zc 36 true (.isub) 1 (zc 37 true (.invokestatic 70) 3 (zc 40 true (.ireturn) 1 ([])))))))))))))))))))))))
theorem zrX11_darkWish_0_ok : zck 0 ((zby cX11_darkWish).drop 0) zrX11_darkWish_0 = true := by decide +kernel
def vfX11_darkWish : List Cond := List.cons (.code yX11_darkWish cX11_darkWish 7 (some .int)) (apW [.fieldLink RX11 9 "HookPierModel$Pier" "dark" "I", .initialized RX12, .static yX12_apart, .methodLink RX11 70 yX11_cut, .static yX11_cut, .initialized RX11] (apW wsX110 (apW vfX12_apart (vfX11_cut))))
theorem ifX11_darkWish_X11 : ∀ w ∈ wsX110, w ∈ vfX11_darkWish := fun _ h => (List.mem_cons_of_mem _ (List.mem_append_right _ (List.mem_append_left _ h)))
theorem qfX11_darkWish : Good vfX11_darkWish := gd_cons (by decide +kernel) (gd_app (gd_dec (by decide +kernel) : Good [.fieldLink RX11 9 "HookPierModel$Pier" "dark" "I", .initialized RX12, .static yX12_apart, .methodLink RX11 70 yX11_cut, .static yX11_cut, .initialized RX11]) (gd_app qsX11 (gd_app qfX12_apart qfX11_cut)))
theorem gfX11_darkWish_0 : GoodIn vfX11_darkWish vfX12_apart := (goodIn_m (fun _ h => (List.mem_cons_of_mem _ (List.mem_append_right _ (List.mem_append_right _ (List.mem_append_left _ h))))) qfX12_apart)
theorem gfX11_darkWish_1 : GoodIn vfX11_darkWish (va_wsS RX11 70 yX11_cut vfX11_cut) := goodIn_app (goodIn_r [.methodLink RX11 70 yX11_cut, .static yX11_cut, .initialized RX11] [4, 5, 6] rfl (by decide +kernel)) (goodIn_m (fun _ h => (List.mem_cons_of_mem _ (List.mem_append_right _ (List.mem_append_right _ (List.mem_append_right _ h))))) qfX11_cut)
set_option maxHeartbeats 2000000 in
set_option maxRecDepth 100000 in
theorem kfX11_darkWish (l : Launch) (dC : Nat → ClassId) (dI : Nat → Nat → Nat) (a0 : Nat) (k1 : Int32) (k2 : Int32) (k3 : Int32) (k4 : Int32) (k5 : Int32) (k6 : Int32) (uq : Nat → Nat) (kq : Nat → ClassId) (q_q : TX11_q) (sz : Nat) (out : Int32) (h : f_X11_darkWish k1 k2 k3 k4 k5 k6 q_q = out) : KDi l yX11_darkWish vfX11_darkWish ({ frames := 1, cells := 0, slots := 0, locals := 21 }) (dC, dI) [.ref a0, .int k1, .int k2, .int k3, .int k4, .int k5, .int k6] sz (bX11 a0 uq kq q_q []) (tX11 kq ([])) (fun (r : Int32) _ => r = out) 0 0 := by
  refine Met.ofW (cc := cX11_darkWish) (maxL := 7) (ret := (some .int)) (by decide) rfl ?_
  intro p e s m args below meth c s₁ B0 hml hv
  obtain ⟨rfl, hsz, hP, hK, hD0, hN⟩ := hv
  have hx := B0.exec
  have hb := B0.bytes
  have hr := B0.returns
  have hts := atoms_spec (ws := vfX11_darkWish) B0.pre
  have hown : s.vm.findClass RX11 = some m.cls := findClass_of_methodNamed B0.named
  have hlocks := B0.notSynchronized
  subst hsz
  have hD := hD0.self (sz := s.heap.size)
  generalize hAe : va_A (bX11 a0 uq kq q_q []) s.heap.size = A at hD ⊢
  have hA : ∀ q : Nat, s.heap.size ≤ q → A q := fun q h => by rw [← hAe]; exact Or.inr h
  have hS : va_S A s.heap s.heap [] := va_S.rf
  have hP : va_P (dC, dI) vwCl (bX11 a0 uq kq q_q []) s.heap := hP
  have hl := lv_entry ([.ref a0, .int k1, .int k2, .int k3, .int k4, .int k5, .int k6]) (n := 7) (Nat.le_of_ble_eq_true rfl)
  rw [lg_entry_eq]
  generalize (lg_sl ([.ref a0, .int k1, .int k2, .int k3, .int k4, .int k5, .int k6]) ++ List.replicate (7 - (lg_sl ([.ref a0, .int k1, .int k2, .int k3, .int k4, .int k5, .int k6])).length) Slot.unset).toArray = ls at hl ⊢
  have hl : lv_has ls 7 [(0, .ref a0), (1, .int k1), (2, .int k2), (3, .int k3), (4, .int k4), (5, .int k5), (6, .int k6)] := hl
  refine W_q (fun QQ hQQ => ?_)
  rw [f_X11_darkWish] at h
  refine lv_aload_n hx hb (zat zrX11_darkWish_0_ok 0 rfl) rfl (lv_at hl 0 rfl) ?_
  refine va_get (D := (dC, dI)) (ci := 8) (v := .int q_q.2.2.2.2.2.2.2.2.1) (C := RX11) (T := TX11) (N := 24) hx hb hts ifX11_darkWish_X11 hown hK hP 0 rfl rfl 8 (by decide) (hts (.fieldLink RX11 9 "HookPierModel$Pier" "dark" "I") (List.mem_of_getElem? (i := 1) rfl)) (fun _ h9 => h9) rfl (zat zrX11_darkWish_0_ok 1 rfl) ?_
  refine lv_iload_n hx hb (zat zrX11_darkWish_0_ok 2 rfl) rfl (lv_at hl 3 rfl) ?_
  refine lv_iload hx hb (zat zrX11_darkWish_0_ok 3 rfl) (lv_at hl 6 rfl) ?_
  have J16 : ∀ (v16_t1 : Int32) (H : Heap) (locs : List Loc) (ls : Array Slot), f_X11_darkWish_J16 k1 k2 k4 k5 q_q v16_t1 = out → va_P (dC, dI) vwCl (bX11 a0 uq kq q_q []) H → va_D A (bX11 a0 uq kq q_q []) → va_S A s.heap H locs → lv_has ls 7 [(1, .int k1), (2, .int k2), (4, .int k4), (5, .int k5)] → W p l e (headSpec vfX11_darkWish { frames := 1, cells := 0, slots := 0, locals := 21 }).room s m ([.ref a0, .int k1, .int k2, .int k3, .int k4, .int k5, .int k6]).toArray below meth c H locs 0 0 QQ (F0 m 16 ls [.int v16_t1, .int q_q.2.2.2.2.2.2.2.2.1]) := by
    intro v16_t1 H locs ls h  hP hD hS hl
    rw [f_X11_darkWish_J16] at h
    refine lv_iadd hx hb (zat zrX11_darkWish_0_ok 8 rfl) ?_
    refine lv_bipush (v := 10) hx hb (zat zrX11_darkWish_0_ok 9 rfl) (by decide) ?_
    refine lv_iload_n hx hb (zat zrX11_darkWish_0_ok 10 rfl) rfl (lv_at hl 0 rfl) ?_
    refine lv_iload hx hb (zat zrX11_darkWish_0_ok 11 rfl) (lv_at hl 2 rfl) ?_
    obtain ⟨o22, eo22⟩ : ∃ o, o = f_X12_apart k1 k4 := ⟨_, rfl⟩
    have h := nm_of h o22 eo22
    refine ck_i (wc := []) (wr := (bX11 a0 uq kq q_q [])) hP hD hK hS hA [] [0, 1, 2, 3, 4, 5, 6, 7, 8, 9, 10, 11, 12, 13, 14] rfl rfl (by decide) (by decide) (by decide) (fun hPc hDc => (va_runSN (As := [.int k1, .int k4]) (rest := [.int 10, .int (q_q.2.2.2.2.2.2.2.2.1 + v16_t1)]) ⟨hx, hb, hml, hown, hts⟩ (kfX12_apart l dC dI k1 k4 H.size o22 eo22.symm) ⟨va_cnB 2 hts gfX11_darkWish_0 rfl rfl rfl (hN.1 (.methodLinkNest RX11 66 yX12_apart "HookPierModel") (List.mem_of_getElem? (i := 21) rfl)) (hts (.initialized RX12) (List.mem_of_getElem? (i := 2) rfl)) (by decide +kernel) ⟨(Nat.le_of_ble_eq_true rfl), (Nat.le_of_ble_eq_true rfl)⟩, (hts (.static yX12_apart) (List.mem_of_getElem? (i := 3) rfl)), trivial⟩ (PS hPc (hK.sub (tys' := ([])) [] rfl) hDc hN) rfl rfl hl.1 rfl (lv_room (Nat.le_of_ble_eq_true rfl)) (zat zrX11_darkWish_0_ok 12 rfl) ⟨(Nat.le_of_ble_eq_true rfl), (Nat.le_of_ble_eq_true rfl)⟩)) (fun r22 _ H locs hw hP hD _ hS => ?_)
    obtain rfl := hw.symm
    obtain ⟨hP, hD⟩ := pd_mk (bX11 a0 uq kq q_q []) hP hD
    refine lv_imul hx hb (zat zrX11_darkWish_0_ok 13 rfl) ?_
    refine lv_isub hx hb (zat zrX11_darkWish_0_ok 14 rfl) ?_
    refine lv_bipush (v := 8) hx hb (zat zrX11_darkWish_0_ok 15 rfl) (by decide) ?_
    refine lv_iload_n hx hb (zat zrX11_darkWish_0_ok 16 rfl) rfl (lv_at hl 1 rfl) ?_
    refine lv_iload hx hb (zat zrX11_darkWish_0_ok 17 rfl) (lv_at hl 3 rfl) ?_
    obtain ⟨o32, eo32⟩ : ∃ o, o = f_X12_apart k2 k5 := ⟨_, rfl⟩
    have h := nm_of h o32 eo32
    refine ck_i (wc := []) (wr := (bX11 a0 uq kq q_q [])) hP hD hK hS hA [] [0, 1, 2, 3, 4, 5, 6, 7, 8, 9, 10, 11, 12, 13, 14] rfl rfl (by decide) (by decide) (by decide) (fun hPc hDc => (va_runSN (As := [.int k2, .int k5]) (rest := [.int 8, .int ((q_q.2.2.2.2.2.2.2.2.1 + v16_t1) - ((10 : Int32) * o22))]) ⟨hx, hb, hml, hown, hts⟩ (kfX12_apart l dC dI k2 k5 H.size o32 eo32.symm) ⟨va_cnB 2 hts gfX11_darkWish_0 rfl rfl rfl (hN.1 (.methodLinkNest RX11 66 yX12_apart "HookPierModel") (List.mem_of_getElem? (i := 21) rfl)) (hts (.initialized RX12) (List.mem_of_getElem? (i := 2) rfl)) (by decide +kernel) ⟨(Nat.le_of_ble_eq_true rfl), (Nat.le_of_ble_eq_true rfl)⟩, (hts (.static yX12_apart) (List.mem_of_getElem? (i := 3) rfl)), trivial⟩ (PS hPc (hK.sub (tys' := ([])) [] rfl) hDc hN) rfl rfl hl.1 rfl (lv_room (Nat.le_of_ble_eq_true rfl)) (zat zrX11_darkWish_0_ok 18 rfl) ⟨(Nat.le_of_ble_eq_true rfl), (Nat.le_of_ble_eq_true rfl)⟩)) (fun r32 _ H locs hw hP hD _ hS => ?_)
    obtain rfl := hw.symm
    obtain ⟨hP, hD⟩ := pd_mk (bX11 a0 uq kq q_q []) hP hD
    refine lv_imul hx hb (zat zrX11_darkWish_0_ok 19 rfl) ?_
    refine lv_isub hx hb (zat zrX11_darkWish_0_ok 20 rfl) ?_
    refine lv_topi (fun z36 ez36 => ?_)
    have h := nm_of h z36 ez36
    obtain ⟨o37, eo37⟩ : ∃ o, o = f_X11_cut z36 := ⟨_, rfl⟩
    have h := nm_of h o37 eo37
    refine ck_i (wc := []) (wr := (bX11 a0 uq kq q_q [])) hP hD hK hS hA [] [0, 1, 2, 3, 4, 5, 6, 7, 8, 9, 10, 11, 12, 13, 14] rfl rfl (by decide) (by decide) (by decide) (fun hPc hDc => (va_runS (As := [.int z36]) (rest := []) ⟨hx, hb, hml, hown, hts⟩ (kfX11_cut l dC dI z36 H.size o37 eo37.symm) (va_cwS 1 hts gfX11_darkWish_1 rfl rfl rfl (by decide +kernel) ⟨(Nat.le_of_ble_eq_true rfl), (Nat.le_of_ble_eq_true rfl)⟩) (PS hPc (hK.sub (tys' := ([])) [] rfl) hDc hN) rfl rfl hl.1 rfl (lv_room (Nat.le_of_ble_eq_true rfl)) (zat zrX11_darkWish_0_ok 21 rfl) ⟨(Nat.le_of_ble_eq_true rfl), (Nat.le_of_ble_eq_true rfl)⟩)) (fun r37 _ H locs hw hP hD _ hS => ?_)
    obtain rfl := hw.symm
    obtain ⟨hP, hD⟩ := pd_mk (bX11 a0 uq kq q_q []) hP hD
    obtain rfl := h
    obtain ⟨hP9, hD9⟩ := pd_sub (bX11 a0 uq kq q_q []) [0, 1, 2, 3, 4, 5, 6, 7, 8, 9, 10, 11, 12, 13, 14] hP hD (by decide) rfl
    have hK9 := hK.sub (tys' := []) [] rfl
    rw [hQQ]
    exact W.iret (v := o37) hx hb hr (fun t ht hW => ⟨⟨o37, (), rfl, rfl, by rw [ht]; exact hP9, va_K.moved hW.alike hK9, hD9⟩, hS.F ht⟩) hS.2.2 (zat zrX11_darkWish_0_ok 22 rfl)
  refine lv_icmp_ne (tgt := 15) hx hb (zat zrX11_darkWish_0_ok 4 rfl) (by decide) (fun c7 => ?_) (fun c7 => ?_)
  · have h := (if_neg c7).symm.trans h
    refine lv_iconst (v := 0) hx hb (zat zrX11_darkWish_0_ok 7 rfl) (by decide) ?_
    exact J16 (0 : Int32) s.heap _ ls h  hP hD hS (lv_sub hl [1, 2, 4, 5] rfl)
  · have h := (if_pos c7).symm.trans h
    refine lv_bipush (v := 20) hx hb (zat zrX11_darkWish_0_ok 5 rfl) (by decide) ?_
    refine lv_goto (tgt := 16) hx hb (zat zrX11_darkWish_0_ok 6 rfl) (by decide) ?_
    exact J16 (20 : Int32) s.heap _ ls h  hP hD hS (lv_sub hl [1, 2, 4, 5] rfl)
noncomputable def zrX11_wrongBite_0 : List ZR := zc 0 true (.iconst 0) 1 (zc 1 true (.istore 4) 2 (zc 3 true (.iload 4) 2 (zc 5 true (.aload_n 0) 1 (zc 6 true (.getfield 74) 3 (zc 9 true (.if_icmp .ge 69) 3 (zc 12 true (.aload_n 0) 1 (zc 13 true (.iload_n 1) 1 (zc 14 true (.iload_n 2) 1 (zc 15 true (.iload_n 3) 1 (zc 16 true (.aload_n 0) 1 (zc 17 true (.getfield 37) 3 (zc 20 true (.iload 4) 2 (zc 22 true (.iaload) 1 (zc 23 true (.aload_n 0) 1 (zc 24 true (.getfield 40) 3 (zc 27 true (.iload 4) 2 (zc 29 true (.iaload) 1 (zc 30 true (.aload_n 0) 1 (zc 31 true (.getfield 43) 3 (zc 34 true (.iload 4) 2 (zc 36 true (.iaload) 1 (zc 37 true (.invokevirtual 77) 3 (zc 40 true (.bipush 50) 2 (zc 42 true (.if_icmp .lt 7) 3 (zc 45 true (.iconst 1) 1 (zc 46 true (.goto 4) 3 (zc 49 true (.iconst 0) 1 (zc 50 true (.aload_n 0) 1 (zc 51 true (.getfield 46) 3 (zc 54 true (.iload 4) 2 (zc 56 true (.iaload) 1 (zc 57 true (.iconst 1) 1 (zc 58 true (.if_icmp .ne 7) 3 (zc 61 true (.iconst 1) 1 (zc 62 true (.goto 4) 3 (zc 65 true (.iconst 0) 1 (zc 66 true (.if_icmp .eq 6) 3 (zc 69 true (.iload 4) 2 (zc 71 true (.ireturn) 1 (zc 72 true (.iinc 4 1) 3 (zc 75 true (.goto (-72)) 3 (zc 78 true (.bipush (-2)) 2 (zc 80 true (.ireturn) 1 ([]))))))))))))))))))))))))))))))))))))))))))))
theorem zrX11_wrongBite_0_ok : zck 0 ((zby cX11_wrongBite).drop 0) zrX11_wrongBite_0 = true := by decide +kernel
def vfX11_wrongBite : List Cond := List.cons (.code yX11_wrongBite cX11_wrongBite 5 (some .int)) (apW [.fieldLink RX11 74 "HookPierModel$Pier" "bites" "I", .fieldLink RX11 37 "HookPierModel$Pier" "biteSpot" "[I", .fieldLink RX11 40 "HookPierModel$Pier" "biteDeep" "[I", .fieldLink RX11 43 "HookPierModel$Pier" "biteBait" "[I", .methodLink RX11 77 yX11_darkWish, .instanceMethod yX11_darkWish, .selects RX11 yX11_darkWish yX11_darkWish, .initialized RX11, .fieldLink RX11 46 "HookPierModel$Pier" "bit" "[I"] (apW wsX110 (vfX11_darkWish)))
theorem ifX11_wrongBite_X11 : ∀ w ∈ wsX110, w ∈ vfX11_wrongBite := fun _ h => (List.mem_cons_of_mem _ (List.mem_append_right _ (List.mem_append_left _ h)))
theorem qfX11_wrongBite : Good vfX11_wrongBite := gd_cons (by decide +kernel) (gd_app (gd_dec (by decide +kernel) : Good [.fieldLink RX11 74 "HookPierModel$Pier" "bites" "I", .fieldLink RX11 37 "HookPierModel$Pier" "biteSpot" "[I", .fieldLink RX11 40 "HookPierModel$Pier" "biteDeep" "[I", .fieldLink RX11 43 "HookPierModel$Pier" "biteBait" "[I", .methodLink RX11 77 yX11_darkWish, .instanceMethod yX11_darkWish, .selects RX11 yX11_darkWish yX11_darkWish, .initialized RX11, .fieldLink RX11 46 "HookPierModel$Pier" "bit" "[I"]) (gd_app qsX11 qfX11_darkWish))
theorem gfX11_wrongBite_0 : GoodIn vfX11_wrongBite (wsV RX11 77 RX11 yX11_darkWish vfX11_darkWish) := goodIn_app (goodIn_r [.methodLink RX11 77 yX11_darkWish, .instanceMethod yX11_darkWish, .selects RX11 yX11_darkWish yX11_darkWish, .initialized RX11] [5, 6, 7, 8] rfl (by decide +kernel)) (goodIn_m (fun _ h => (List.mem_cons_of_mem _ (List.mem_append_right _ (List.mem_append_right _ h)))) qfX11_darkWish)
set_option maxHeartbeats 2000000 in
set_option maxRecDepth 100000 in
theorem kfX11_wrongBite (l : Launch) (dC : Nat → ClassId) (dI : Nat → Nat → Nat) (a0 : Nat) (k1 : Int32) (k2 : Int32) (k3 : Int32) (uq : Nat → Nat) (kq : Nat → ClassId) (q_q : TX11_q) (sz : Nat) (out : Int32) (h : f_X11_wrongBite k1 k2 k3 q_q = some out) : KDi l yX11_wrongBite vfX11_wrongBite ({ frames := 2, cells := 0, slots := 0, locals := 47 }) (dC, dI) [.ref a0, .int k1, .int k2, .int k3] sz (bX11 a0 uq kq q_q []) (tX11 kq ([])) (fun (r : Int32) _ => r = out) 0 0 := by
  refine Met.ofW (cc := cX11_wrongBite) (maxL := 5) (ret := (some .int)) (by decide) rfl ?_
  intro p e s m args below meth c s₁ B0 hml hv
  obtain ⟨rfl, hsz, hP, hK, hD0, hN⟩ := hv
  have hx := B0.exec
  have hb := B0.bytes
  have hr := B0.returns
  have hts := atoms_spec (ws := vfX11_wrongBite) B0.pre
  have hown : s.vm.findClass RX11 = some m.cls := findClass_of_methodNamed B0.named
  have hlocks := B0.notSynchronized
  subst hsz
  have hD := hD0.self (sz := s.heap.size)
  generalize hAe : va_A (bX11 a0 uq kq q_q []) s.heap.size = A at hD ⊢
  have hA : ∀ q : Nat, s.heap.size ≤ q → A q := fun q h => by rw [← hAe]; exact Or.inr h
  have hS : va_S A s.heap s.heap [] := va_S.rf
  have hP : va_P (dC, dI) vwCl (bX11 a0 uq kq q_q []) s.heap := hP
  have hl := lv_entry ([.ref a0, .int k1, .int k2, .int k3]) (n := 5) (Nat.le_of_ble_eq_true rfl)
  rw [lg_entry_eq]
  generalize (lg_sl ([.ref a0, .int k1, .int k2, .int k3]) ++ List.replicate (5 - (lg_sl ([.ref a0, .int k1, .int k2, .int k3])).length) Slot.unset).toArray = ls at hl ⊢
  have hl : lv_has ls 5 [(0, .ref a0), (1, .int k1), (2, .int k2), (3, .int k3)] := hl
  refine W_q (fun QQ hQQ => ?_)
  rw [f_X11_wrongBite] at h
  refine lv_iconst (v := 0) hx hb (zat zrX11_wrongBite_0_ok 0 rfl) (by decide) ?_
  refine lv_istore (lv' := [(4, .int 0), (0, .ref a0), (1, .int k1), (2, .int k2), (3, .int k3)]) hx hb (zat zrX11_wrongBite_0_ok 1 rfl) hl (by decide) rfl (fun ls hl => ?_)
  have L3 : ∀ (n3 : Nat) (v3_l4 : Int32) (H : Heap) (locs : List Loc) (ls : Array Slot), f_X11_wrongBite_L3 k1 k2 k3 q_q n3 v3_l4 = some out → va_P (dC, dI) vwCl (bX11 a0 uq kq q_q []) H → va_D A (bX11 a0 uq kq q_q []) → va_S A s.heap H locs → lv_has ls 5 [(4, .int v3_l4), (0, .ref a0), (1, .int k1), (2, .int k2), (3, .int k3)] → W p l e (headSpec vfX11_wrongBite { frames := 2, cells := 0, slots := 0, locals := 47 }).room s m ([.ref a0, .int k1, .int k2, .int k3]).toArray below meth c H locs 0 0 QQ (F0 m 3 ls []) := by
    intro n3
    induction n3 with
    | zero =>
      intro v3_l4 H locs ls h  _ _ _ _
      rw [f_X11_wrongBite_L3] at h
      cases h
    | succ n3 ih3 =>
      intro v3_l4 H locs ls h  hP hD hS hl
      rw [f_X11_wrongBite_L3] at h
      refine lv_iload hx hb (zat zrX11_wrongBite_0_ok 2 rfl) (lv_at hl 0 rfl) ?_
      refine lv_aload_n hx hb (zat zrX11_wrongBite_0_ok 3 rfl) rfl (lv_at hl 1 rfl) ?_
      refine va_get (D := (dC, dI)) (ci := 8) (v := .int q_q.2.2.2.2.2.2.2.1) (C := RX11) (T := TX11) (N := 24) hx hb hts ifX11_wrongBite_X11 hown hK hP 0 rfl rfl 7 (by decide) (hts (.fieldLink RX11 74 "HookPierModel$Pier" "bites" "I") (List.mem_of_getElem? (i := 1) rfl)) (fun _ h9 => h9) rfl (zat zrX11_wrongBite_0_ok 4 rfl) ?_
      refine lv_icmp_ge (tgt := 78) hx hb (zat zrX11_wrongBite_0_ok 5 rfl) (by decide) (fun c9 => ?_) (fun c9 => ?_)
      · have h := (if_pos c9).symm.trans h
        refine lv_bipush (v := (-2)) hx hb (zat zrX11_wrongBite_0_ok 42 rfl) (by decide) ?_
        obtain rfl := Option.some.inj h
        obtain ⟨hP9, hD9⟩ := pd_sub (bX11 a0 uq kq q_q []) [0, 1, 2, 3, 4, 5, 6, 7, 8, 9, 10, 11, 12, 13, 14] hP hD (by decide) rfl
        have hK9 := hK.sub (tys' := []) [] rfl
        rw [hQQ]
        exact W.iret (v := (-2 : Int32)) hx hb hr (fun t ht hW => ⟨⟨(-2 : Int32), (), rfl, rfl, by rw [ht]; exact hP9, va_K.moved hW.alike hK9, hD9⟩, hS.F ht⟩) hS.2.2 (zat zrX11_wrongBite_0_ok 43 rfl)
      · have h := (if_neg c9).symm.trans h
        refine lv_aload_n hx hb (zat zrX11_wrongBite_0_ok 6 rfl) rfl (lv_at hl 1 rfl) ?_
        refine lv_iload_n hx hb (zat zrX11_wrongBite_0_ok 7 rfl) rfl (lv_at hl 2 rfl) ?_
        refine lv_iload_n hx hb (zat zrX11_wrongBite_0_ok 8 rfl) rfl (lv_at hl 3 rfl) ?_
        refine lv_iload_n hx hb (zat zrX11_wrongBite_0_ok 9 rfl) rfl (lv_at hl 4 rfl) ?_
        refine lv_aload_n hx hb (zat zrX11_wrongBite_0_ok 10 rfl) rfl (lv_at hl 1 rfl) ?_
        refine va_get (D := (dC, dI)) (ci := 8) (v := .ref (uq 7)) (C := RX11) (T := TX11) (N := 24) hx hb hts ifX11_wrongBite_X11 hown hK hP 0 rfl rfl 17 (by decide) (hts (.fieldLink RX11 37 "HookPierModel$Pier" "biteSpot" "[I") (List.mem_of_getElem? (i := 2) rfl)) (fun _ h9 => h9) rfl (zat zrX11_wrongBite_0_ok 11 rfl) ?_
        refine lv_iload hx hb (zat zrX11_wrongBite_0_ok 12 rfl) (lv_at hl 0 rfl) ?_
        obtain ⟨hg22, h⟩ := gA_of h
        refine va_iald hx hb hK hP 8 7 rfl rfl hg22 (zat zrX11_wrongBite_0_ok 13 rfl) ?_
        refine lv_topi (fun z22 ez22 => ?_)
        have h := nm_of h z22 ez22
        refine lv_aload_n hx hb (zat zrX11_wrongBite_0_ok 14 rfl) rfl (lv_at hl 1 rfl) ?_
        refine va_get (D := (dC, dI)) (ci := 8) (v := .ref (uq 8)) (C := RX11) (T := TX11) (N := 24) hx hb hts ifX11_wrongBite_X11 hown hK hP 0 rfl rfl 18 (by decide) (hts (.fieldLink RX11 40 "HookPierModel$Pier" "biteDeep" "[I") (List.mem_of_getElem? (i := 3) rfl)) (fun _ h9 => h9) rfl (zat zrX11_wrongBite_0_ok 15 rfl) ?_
        refine lv_iload hx hb (zat zrX11_wrongBite_0_ok 16 rfl) (lv_at hl 0 rfl) ?_
        obtain ⟨hg29, h⟩ := gA_of h
        refine va_iald hx hb hK hP 9 8 rfl rfl hg29 (zat zrX11_wrongBite_0_ok 17 rfl) ?_
        refine lv_topi (fun z29 ez29 => ?_)
        have h := nm_of h z29 ez29
        refine lv_aload_n hx hb (zat zrX11_wrongBite_0_ok 18 rfl) rfl (lv_at hl 1 rfl) ?_
        refine va_get (D := (dC, dI)) (ci := 8) (v := .ref (uq 9)) (C := RX11) (T := TX11) (N := 24) hx hb hts ifX11_wrongBite_X11 hown hK hP 0 rfl rfl 19 (by decide) (hts (.fieldLink RX11 43 "HookPierModel$Pier" "biteBait" "[I") (List.mem_of_getElem? (i := 4) rfl)) (fun _ h9 => h9) rfl (zat zrX11_wrongBite_0_ok 19 rfl) ?_
        refine lv_iload hx hb (zat zrX11_wrongBite_0_ok 20 rfl) (lv_at hl 0 rfl) ?_
        obtain ⟨hg36, h⟩ := gA_of h
        refine va_iald hx hb hK hP 10 9 rfl rfl hg36 (zat zrX11_wrongBite_0_ok 21 rfl) ?_
        refine lv_topi (fun z36 ez36 => ?_)
        have h := nm_of h z36 ez36
        obtain ⟨o37, eo37⟩ : ∃ o, o = f_X11_darkWish k1 k2 k3 z22 z29 z36 q_q := ⟨_, rfl⟩
        have h := nm_of h o37 eo37
        refine ck_i (wc := (bX11 a0 uq kq q_q [])) (wr := []) hP hD hK hS hA [0, 1, 2, 3, 4, 5, 6, 7, 8, 9, 10, 11, 12, 13, 14] [] rfl rfl (by decide) (by decide) (by decide) (fun hPc hDc => (va_runV (As := [.int k1, .int k2, .int k3, .int z22, .int z29, .int z36]) (rest := []) ⟨hx, hb, hml, hown, hts⟩ (kfX11_darkWish l dC dI a0 k1 k2 k3 z22 z29 z36 uq kq q_q H.size o37 eo37.symm) (cwV 6 hts gfX11_wrongBite_0 rfl rfl rfl (by decide +kernel) ⟨(Nat.le_of_ble_eq_true rfl), (Nat.le_of_ble_eq_true rfl)⟩) (PV hPc (hK.sub (tys' := (tX11 kq ([]))) [0, 1, 2, 3, 4, 5, 6, 7, 8, 9, 10, 11, 12, 13] rfl) hDc hN 0 rfl rfl) rfl rfl hl.1 rfl (lv_room (Nat.le_of_ble_eq_true rfl)) (zat zrX11_wrongBite_0_ok 22 rfl) ⟨(Nat.le_of_ble_eq_true rfl), (Nat.le_of_ble_eq_true rfl)⟩)) (fun r37 _ H locs hw hP hD _ hS => ?_)
        obtain rfl := hw.symm
        obtain ⟨hP, hD⟩ := pd_mk (bX11 a0 uq kq q_q []) hP hD
        refine lv_bipush (v := 50) hx hb (zat zrX11_wrongBite_0_ok 23 rfl) (by decide) ?_
        have J50 : ∀ (v50_t0 : Int32) (H : Heap) (locs : List Loc) (ls : Array Slot), f_X11_wrongBite_J50 q_q (f_X11_wrongBite_L3 k1 k2 k3 q_q n3) v3_l4 v50_t0 = some out → 0 ≤ v50_t0.toInt ∧ v50_t0.toInt ≤ 1 → va_P (dC, dI) vwCl (bX11 a0 uq kq q_q []) H → va_D A (bX11 a0 uq kq q_q []) → va_S A s.heap H locs → lv_has ls 5 [(4, .int v3_l4), (0, .ref a0), (1, .int k1), (2, .int k2), (3, .int k3)] → W p l e (headSpec vfX11_wrongBite { frames := 2, cells := 0, slots := 0, locals := 47 }).room s m ([.ref a0, .int k1, .int k2, .int k3]).toArray below meth c H locs 0 0 QQ (F0 m 50 ls [.int v50_t0]) := by
          intro v50_t0 H locs ls h zb_v50_t0 hP hD hS hl
          rw [f_X11_wrongBite_J50] at h
          refine lv_aload_n hx hb (zat zrX11_wrongBite_0_ok 28 rfl) rfl (lv_at hl 1 rfl) ?_
          refine va_get (D := (dC, dI)) (ci := 8) (v := .ref (uq 10)) (C := RX11) (T := TX11) (N := 24) hx hb hts ifX11_wrongBite_X11 hown hK hP 0 rfl rfl 20 (by decide) (hts (.fieldLink RX11 46 "HookPierModel$Pier" "bit" "[I") (List.mem_of_getElem? (i := 9) rfl)) (fun _ h9 => h9) rfl (zat zrX11_wrongBite_0_ok 29 rfl) ?_
          refine lv_iload hx hb (zat zrX11_wrongBite_0_ok 30 rfl) (lv_at hl 0 rfl) ?_
          obtain ⟨hg56, h⟩ := gA_of h
          refine va_iald hx hb hK hP 11 10 rfl rfl hg56 (zat zrX11_wrongBite_0_ok 31 rfl) ?_
          refine lv_topi (fun z56 ez56 => ?_)
          have h := nm_of h z56 ez56
          refine lv_iconst (v := 1) hx hb (zat zrX11_wrongBite_0_ok 32 rfl) (by decide) ?_
          have J66 : ∀ (v66_t1 : Int32) (H : Heap) (locs : List Loc) (ls : Array Slot), f_X11_wrongBite_J66 (f_X11_wrongBite_L3 k1 k2 k3 q_q n3) v3_l4 v50_t0 v66_t1 = some out → 0 ≤ v66_t1.toInt ∧ v66_t1.toInt ≤ 1 → va_P (dC, dI) vwCl (bX11 a0 uq kq q_q []) H → va_D A (bX11 a0 uq kq q_q []) → va_S A s.heap H locs → lv_has ls 5 [(4, .int v3_l4), (0, .ref a0), (1, .int k1), (2, .int k2), (3, .int k3)] → W p l e (headSpec vfX11_wrongBite { frames := 2, cells := 0, slots := 0, locals := 47 }).room s m ([.ref a0, .int k1, .int k2, .int k3]).toArray below meth c H locs 0 0 QQ (F0 m 66 ls [.int v66_t1, .int v50_t0]) := by
            intro v66_t1 H locs ls h zb_v66_t1 hP hD hS hl
            rw [f_X11_wrongBite_J66] at h
            refine lv_icmp_eq (tgt := 72) hx hb (zat zrX11_wrongBite_0_ok 37 rfl) (by decide) (fun c66 => ?_) (fun c66 => ?_)
            · have h := (if_pos c66).symm.trans h
              refine lv_iinc (v := (v3_l4 + (1 : Int32))) (lv' := [(4, .int (v3_l4 + (1 : Int32))), (0, .ref a0), (1, .int k1), (2, .int k2), (3, .int k3)]) hx hb (zat zrX11_wrongBite_0_ok 40 rfl) hl (k := 0) rfl rfl (by decide) rfl (fun ls hl => ?_)
              refine lv_goto (tgt := 3) hx hb (zat zrX11_wrongBite_0_ok 41 rfl) (by decide) ?_
              exact ih3 (v3_l4 + (1 : Int32)) H _ ls h  hP hD hS (lv_sub hl [0, 1, 2, 3, 4] rfl)
            · have h := (if_neg c66).symm.trans h
              refine lv_iload hx hb (zat zrX11_wrongBite_0_ok 38 rfl) (lv_at hl 0 rfl) ?_
              obtain rfl := Option.some.inj h
              obtain ⟨hP9, hD9⟩ := pd_sub (bX11 a0 uq kq q_q []) [0, 1, 2, 3, 4, 5, 6, 7, 8, 9, 10, 11, 12, 13, 14] hP hD (by decide) rfl
              have hK9 := hK.sub (tys' := []) [] rfl
              rw [hQQ]
              exact W.iret (v := v3_l4) hx hb hr (fun t ht hW => ⟨⟨v3_l4, (), rfl, rfl, by rw [ht]; exact hP9, va_K.moved hW.alike hK9, hD9⟩, hS.F ht⟩) hS.2.2 (zat zrX11_wrongBite_0_ok 39 rfl)
          refine lv_icmp_ne (tgt := 65) hx hb (zat zrX11_wrongBite_0_ok 33 rfl) (by decide) (fun c58 => ?_) (fun c58 => ?_)
          · have h := (if_neg c58).symm.trans h
            refine lv_iconst (v := 0) hx hb (zat zrX11_wrongBite_0_ok 36 rfl) (by decide) ?_
            exact J66 (0 : Int32) H _ ls h (by decide) hP hD hS (lv_sub hl [0, 1, 2, 3, 4] rfl)
          · have h := (if_pos c58).symm.trans h
            refine lv_iconst (v := 1) hx hb (zat zrX11_wrongBite_0_ok 34 rfl) (by decide) ?_
            refine lv_goto (tgt := 66) hx hb (zat zrX11_wrongBite_0_ok 35 rfl) (by decide) ?_
            exact J66 (1 : Int32) H _ ls h (by decide) hP hD hS (lv_sub hl [0, 1, 2, 3, 4] rfl)
        refine lv_icmp_lt (tgt := 49) hx hb (zat zrX11_wrongBite_0_ok 24 rfl) (by decide) (fun c42 => ?_) (fun c42 => ?_)
        · have h := (if_pos c42).symm.trans h
          refine lv_iconst (v := 0) hx hb (zat zrX11_wrongBite_0_ok 27 rfl) (by decide) ?_
          exact J50 (0 : Int32) H _ ls h (by decide) hP hD hS (lv_sub hl [0, 1, 2, 3, 4] rfl)
        · have h := (if_neg c42).symm.trans h
          refine lv_iconst (v := 1) hx hb (zat zrX11_wrongBite_0_ok 25 rfl) (by decide) ?_
          refine lv_goto (tgt := 50) hx hb (zat zrX11_wrongBite_0_ok 26 rfl) (by decide) ?_
          exact J50 (1 : Int32) H _ ls h (by decide) hP hD hS (lv_sub hl [0, 1, 2, 3, 4] rfl)
  exact L3 FU (0 : Int32) s.heap _ ls h  hP hD hS (lv_sub hl [0, 1, 2, 3, 4] rfl)
noncomputable def zrX12_isDark_0 : List ZR := zc 0 true (.aload_n 0) 1 (zc 1 true (.getfield 299) 3 (zc 4 true (.aload_n 0) 1 (zc 5 true (.iload_n 1) 1 (zc 6 true (.invokevirtual 307) 3 (zc 9 true (.aload_n 0) 1 (zc 10 true (.iload_n 1) 1 (zc 11 true (.invokevirtual 310) 3 (zc 14 true (.aload_n 0) 1 (zc 15 true (.iload_n 1) 1 (zc 16 true (.invokevirtual 313) 3 (zc 19 true (.invokevirtual 414) 3 (zc 22 true (.bipush (-2)) 2 (zc 24 true (.if_icmp .ne 7) 3 (zc 27 true (.iconst 1) 1 (zc 28 true (.goto 4) 3 (zc 31 true (.iconst 0) 1 (zc 32 true (.ireturn) 1 ([]))))))))))))))))))
theorem zrX12_isDark_0_ok : zck 0 ((zby cX12_isDark).drop 0) zrX12_isDark_0 = true := by decide +kernel
def vfX12_isDark : List Cond := List.cons (.code yX12_isDark cX12_isDark 2 (some .boolean)) (apW [.fieldLink RX12 299 "HookPierModel" "pier" "LHookPierModel$Pier;", .methodLink RX12 307 yX12_spotOf, .instanceMethod yX12_spotOf, .selects RX12 yX12_spotOf yX12_spotOf, .initialized RX12, .methodLink RX12 310 yX12_fathomsOf, .instanceMethod yX12_fathomsOf, .selects RX12 yX12_fathomsOf yX12_fathomsOf, .methodLink RX12 313 yX12_baitOf, .instanceMethod yX12_baitOf, .selects RX12 yX12_baitOf yX12_baitOf, .methodLink RX12 414 yX11_wrongBite, .instanceMethod yX11_wrongBite, .selects RX11 yX11_wrongBite yX11_wrongBite, .initialized RX11] (apW wsX120 (apW vfX12_spotOf (apW vfX12_fathomsOf (apW vfX12_baitOf (vfX11_wrongBite))))))
theorem ifX12_isDark_X12 : ∀ w ∈ wsX120, w ∈ vfX12_isDark := fun _ h => (List.mem_cons_of_mem _ (List.mem_append_right _ (List.mem_append_left _ h)))
theorem qfX12_isDark : Good vfX12_isDark := gd_cons (by decide +kernel) (gd_app (gd_dec (by decide +kernel) : Good [.fieldLink RX12 299 "HookPierModel" "pier" "LHookPierModel$Pier;", .methodLink RX12 307 yX12_spotOf, .instanceMethod yX12_spotOf, .selects RX12 yX12_spotOf yX12_spotOf, .initialized RX12, .methodLink RX12 310 yX12_fathomsOf, .instanceMethod yX12_fathomsOf, .selects RX12 yX12_fathomsOf yX12_fathomsOf, .methodLink RX12 313 yX12_baitOf, .instanceMethod yX12_baitOf, .selects RX12 yX12_baitOf yX12_baitOf, .methodLink RX12 414 yX11_wrongBite, .instanceMethod yX11_wrongBite, .selects RX11 yX11_wrongBite yX11_wrongBite, .initialized RX11]) (gd_app qsX12 (gd_app qfX12_spotOf (gd_app qfX12_fathomsOf (gd_app qfX12_baitOf qfX11_wrongBite)))))
theorem gfX12_isDark_0 : GoodIn vfX12_isDark (wsV RX12 307 RX12 yX12_spotOf vfX12_spotOf) := goodIn_app (goodIn_r [.methodLink RX12 307 yX12_spotOf, .instanceMethod yX12_spotOf, .selects RX12 yX12_spotOf yX12_spotOf, .initialized RX12] [2, 3, 4, 5] rfl (by decide +kernel)) (goodIn_m (fun _ h => (List.mem_cons_of_mem _ (List.mem_append_right _ (List.mem_append_right _ (List.mem_append_left _ h))))) qfX12_spotOf)
theorem gfX12_isDark_1 : GoodIn vfX12_isDark (wsV RX12 310 RX12 yX12_fathomsOf vfX12_fathomsOf) := goodIn_app (goodIn_r [.methodLink RX12 310 yX12_fathomsOf, .instanceMethod yX12_fathomsOf, .selects RX12 yX12_fathomsOf yX12_fathomsOf, .initialized RX12] [6, 7, 8, 5] rfl (by decide +kernel)) (goodIn_m (fun _ h => (List.mem_cons_of_mem _ (List.mem_append_right _ (List.mem_append_right _ (List.mem_append_right _ (List.mem_append_left _ h)))))) qfX12_fathomsOf)
theorem gfX12_isDark_2 : GoodIn vfX12_isDark (wsV RX12 313 RX12 yX12_baitOf vfX12_baitOf) := goodIn_app (goodIn_r [.methodLink RX12 313 yX12_baitOf, .instanceMethod yX12_baitOf, .selects RX12 yX12_baitOf yX12_baitOf, .initialized RX12] [9, 10, 11, 5] rfl (by decide +kernel)) (goodIn_m (fun _ h => (List.mem_cons_of_mem _ (List.mem_append_right _ (List.mem_append_right _ (List.mem_append_right _ (List.mem_append_right _ (List.mem_append_left _ h))))))) qfX12_baitOf)
theorem gfX12_isDark_3 : GoodIn vfX12_isDark (wsV RX12 414 RX11 yX11_wrongBite vfX11_wrongBite) := goodIn_app (goodIn_r [.methodLink RX12 414 yX11_wrongBite, .instanceMethod yX11_wrongBite, .selects RX11 yX11_wrongBite yX11_wrongBite, .initialized RX11] [12, 13, 14, 15] rfl (by decide +kernel)) (goodIn_m (fun _ h => (List.mem_cons_of_mem _ (List.mem_append_right _ (List.mem_append_right _ (List.mem_append_right _ (List.mem_append_right _ (List.mem_append_right _ h))))))) qfX11_wrongBite)
set_option maxHeartbeats 2000000 in
set_option maxRecDepth 100000 in
theorem kfX12_isDark (l : Launch) (dC : Nat → ClassId) (dI : Nat → Nat → Nat) (a0 : Nat) (k1 : Int32) (a2 : Nat) (uq : Nat → Nat) (kq : Nat → ClassId) (g5 : Value) (g6 : Value) (g7 : Value) (g8 : Value) (g9 : Value) (g10 : Value) (g11 : Value) (g12 : Value) (g13 : Value) (g14 : Value) (g15 : Value) (g16 : Value) (g17 : Value) (g18 : Value) (g19 : Value) (g20 : Value) (g21 : Value) (g22 : Value) (g23 : Value) (g24 : Value) (g25 : Value) (g26 : Value) (g27 : Value) (g28 : Value) (g29 : Value) (g30 : Value) (g31 : Value) (g32 : Value) (g33 : Value) (q_q : TX11_q) (sz : Nat) (out : Int32) (h : f_X12_isDark k1 q_q = some out) : KDi l yX12_isDark vfX12_isDark ({ frames := 3, cells := 0, slots := 0, locals := 71 }) (dC, dI) [.ref a0, .int k1] sz ((a0, .inr (9, [g5, g6, g7, .ref a2, g8, g9, g10, g11, g12, g13, g14, g15, g16, g17, g18, g19, g20, g21, g22, g23, g24, g25, g26, g27, g28, g29, g30, g31, g32, g33])) :: bX11 a2 uq kq q_q []) (tX11 kq ([])) (fun (r : Int32) _ => r = out ∧ (0 ≤ r.toInt ∧ r.toInt ≤ 1)) 0 0 := by
  refine Met.ofW (cc := cX12_isDark) (maxL := 2) (ret := (some .boolean)) (by decide) rfl ?_
  intro p e s m args below meth c s₁ B0 hml hv
  obtain ⟨rfl, hsz, hP, hK, hD0, hN⟩ := hv
  have hx := B0.exec
  have hb := B0.bytes
  have hr := B0.returns
  have hts := atoms_spec (ws := vfX12_isDark) B0.pre
  have hown : s.vm.findClass RX12 = some m.cls := findClass_of_methodNamed B0.named
  have hlocks := B0.notSynchronized
  subst hsz
  have hD := hD0.self (sz := s.heap.size)
  generalize hAe : va_A ((a0, .inr (9, [g5, g6, g7, .ref a2, g8, g9, g10, g11, g12, g13, g14, g15, g16, g17, g18, g19, g20, g21, g22, g23, g24, g25, g26, g27, g28, g29, g30, g31, g32, g33])) :: bX11 a2 uq kq q_q []) s.heap.size = A at hD ⊢
  have hA : ∀ q : Nat, s.heap.size ≤ q → A q := fun q h => by rw [← hAe]; exact Or.inr h
  have hS : va_S A s.heap s.heap [] := va_S.rf
  have hP : va_P (dC, dI) vwCl ((a0, .inr (9, [g5, g6, g7, .ref a2, g8, g9, g10, g11, g12, g13, g14, g15, g16, g17, g18, g19, g20, g21, g22, g23, g24, g25, g26, g27, g28, g29, g30, g31, g32, g33])) :: bX11 a2 uq kq q_q []) s.heap := hP
  have hl := lv_entry ([.ref a0, .int k1]) (n := 2) (Nat.le_of_ble_eq_true rfl)
  rw [lg_entry_eq]
  generalize (lg_sl ([.ref a0, .int k1]) ++ List.replicate (2 - (lg_sl ([.ref a0, .int k1])).length) Slot.unset).toArray = ls at hl ⊢
  have hl : lv_has ls 2 [(0, .ref a0), (1, .int k1)] := hl
  refine W_q (fun QQ hQQ => ?_)
  rw [f_X12_isDark] at h
  refine lv_aload_n hx hb (zat zrX12_isDark_0_ok 0 rfl) rfl (lv_at hl 0 rfl) ?_
  refine va_get (D := (dC, dI)) (ci := 9) (v := .ref a2) (C := RX12) (T := TX12) (N := 30) hx hb hts ifX12_isDark_X12 hown hK hP 0 rfl rfl 3 (by decide) (hts (.fieldLink RX12 299 "HookPierModel" "pier" "LHookPierModel$Pier;") (List.mem_of_getElem? (i := 1) rfl)) (fun _ h9 => h9) rfl (zat zrX12_isDark_0_ok 1 rfl) ?_
  refine lv_aload_n hx hb (zat zrX12_isDark_0_ok 2 rfl) rfl (lv_at hl 0 rfl) ?_
  refine lv_iload_n hx hb (zat zrX12_isDark_0_ok 3 rfl) rfl (lv_at hl 1 rfl) ?_
  obtain ⟨o6, eo6, h⟩ := bd_of h
  refine ck_i (wc := ((a0, .inr (9, [g5, g6, g7, .ref a2, g8, g9, g10, g11, g12, g13, g14, g15, g16, g17, g18, g19, g20, g21, g22, g23, g24, g25, g26, g27, g28, g29, g30, g31, g32, g33])) :: bX11 a2 uq kq q_q [])) (wr := []) hP hD hK hS hA [0, 1, 2, 3, 4, 5, 6, 7, 8, 9, 10, 11, 12, 13, 14, 15] [] rfl rfl (by decide) (by decide) (by decide) (fun hPc hDc => (va_runV (As := [.int k1]) (rest := [.ref a2]) ⟨hx, hb, hml, hown, hts⟩ (kfX12_spotOf l dC dI a0 k1 a2 uq kq (g5) (g6) (g7) (g8) (g9) (g10) (g11) (g12) (g13) (g14) (g15) (g16) (g17) (g18) (g19) (g20) (g21) (g22) (g23) (g24) (g25) (g26) (g27) (g28) (g29) (g30) (g31) (g32) (g33) q_q s.heap.size o6 eo6) (cwV 1 hts gfX12_isDark_0 rfl rfl rfl (by decide +kernel) ⟨(Nat.le_of_ble_eq_true rfl), (Nat.le_of_ble_eq_true rfl)⟩) (PV hPc (hK.sub (tys' := (tX11 kq ([]))) [0, 1, 2, 3, 4, 5, 6, 7, 8, 9, 10, 11, 12, 13] rfl) hDc hN 0 rfl rfl) rfl rfl hl.1 rfl (lv_room (Nat.le_of_ble_eq_true rfl)) (zat zrX12_isDark_0_ok 4 rfl) ⟨(Nat.le_of_ble_eq_true rfl), (Nat.le_of_ble_eq_true rfl)⟩)) (fun r6 _ H locs hw hP hD _ hS => ?_)
  obtain rfl := hw.symm
  obtain ⟨hP, hD⟩ := pd_mk ((a0, .inr (9, [g5, g6, g7, .ref a2, g8, g9, g10, g11, g12, g13, g14, g15, g16, g17, g18, g19, g20, g21, g22, g23, g24, g25, g26, g27, g28, g29, g30, g31, g32, g33])) :: bX11 a2 uq kq q_q []) hP hD
  refine lv_aload_n hx hb (zat zrX12_isDark_0_ok 5 rfl) rfl (lv_at hl 0 rfl) ?_
  refine lv_iload_n hx hb (zat zrX12_isDark_0_ok 6 rfl) rfl (lv_at hl 1 rfl) ?_
  obtain ⟨o11, eo11, h⟩ := bd_of h
  refine ck_i (wc := ((a0, .inr (9, [g5, g6, g7, .ref a2, g8, g9, g10, g11, g12, g13, g14, g15, g16, g17, g18, g19, g20, g21, g22, g23, g24, g25, g26, g27, g28, g29, g30, g31, g32, g33])) :: bX11 a2 uq kq q_q [])) (wr := []) hP hD hK hS hA [0, 1, 2, 3, 4, 5, 6, 7, 8, 9, 10, 11, 12, 13, 14, 15] [] rfl rfl (by decide) (by decide) (by decide) (fun hPc hDc => (va_runV (As := [.int k1]) (rest := [.int o6, .ref a2]) ⟨hx, hb, hml, hown, hts⟩ (kfX12_fathomsOf l dC dI a0 k1 a2 uq kq (g5) (g6) (g7) (g8) (g9) (g10) (g11) (g12) (g13) (g14) (g15) (g16) (g17) (g18) (g19) (g20) (g21) (g22) (g23) (g24) (g25) (g26) (g27) (g28) (g29) (g30) (g31) (g32) (g33) q_q H.size o11 eo11) (cwV 1 hts gfX12_isDark_1 rfl rfl rfl (by decide +kernel) ⟨(Nat.le_of_ble_eq_true rfl), (Nat.le_of_ble_eq_true rfl)⟩) (PV hPc (hK.sub (tys' := (tX11 kq ([]))) [0, 1, 2, 3, 4, 5, 6, 7, 8, 9, 10, 11, 12, 13] rfl) hDc hN 0 rfl rfl) rfl rfl hl.1 rfl (lv_room (Nat.le_of_ble_eq_true rfl)) (zat zrX12_isDark_0_ok 7 rfl) ⟨(Nat.le_of_ble_eq_true rfl), (Nat.le_of_ble_eq_true rfl)⟩)) (fun r11 _ H locs hw hP hD _ hS => ?_)
  obtain rfl := hw.symm
  obtain ⟨hP, hD⟩ := pd_mk ((a0, .inr (9, [g5, g6, g7, .ref a2, g8, g9, g10, g11, g12, g13, g14, g15, g16, g17, g18, g19, g20, g21, g22, g23, g24, g25, g26, g27, g28, g29, g30, g31, g32, g33])) :: bX11 a2 uq kq q_q []) hP hD
  refine lv_aload_n hx hb (zat zrX12_isDark_0_ok 8 rfl) rfl (lv_at hl 0 rfl) ?_
  refine lv_iload_n hx hb (zat zrX12_isDark_0_ok 9 rfl) rfl (lv_at hl 1 rfl) ?_
  obtain ⟨o16, eo16, h⟩ := bd_of h
  refine ck_i (wc := ((a0, .inr (9, [g5, g6, g7, .ref a2, g8, g9, g10, g11, g12, g13, g14, g15, g16, g17, g18, g19, g20, g21, g22, g23, g24, g25, g26, g27, g28, g29, g30, g31, g32, g33])) :: bX11 a2 uq kq q_q [])) (wr := []) hP hD hK hS hA [0, 1, 2, 3, 4, 5, 6, 7, 8, 9, 10, 11, 12, 13, 14, 15] [] rfl rfl (by decide) (by decide) (by decide) (fun hPc hDc => (va_runV (As := [.int k1]) (rest := [.int o11, .int o6, .ref a2]) ⟨hx, hb, hml, hown, hts⟩ (kfX12_baitOf l dC dI a0 k1 a2 uq kq (g5) (g6) (g7) (g8) (g9) (g10) (g11) (g12) (g13) (g14) (g15) (g16) (g17) (g18) (g19) (g20) (g21) (g22) (g23) (g24) (g25) (g26) (g27) (g28) (g29) (g30) (g31) (g32) (g33) q_q H.size o16 eo16) (cwV 1 hts gfX12_isDark_2 rfl rfl rfl (by decide +kernel) ⟨(Nat.le_of_ble_eq_true rfl), (Nat.le_of_ble_eq_true rfl)⟩) (PV hPc (hK.sub (tys' := (tX11 kq ([]))) [0, 1, 2, 3, 4, 5, 6, 7, 8, 9, 10, 11, 12, 13] rfl) hDc hN 0 rfl rfl) rfl rfl hl.1 rfl (lv_room (Nat.le_of_ble_eq_true rfl)) (zat zrX12_isDark_0_ok 10 rfl) ⟨(Nat.le_of_ble_eq_true rfl), (Nat.le_of_ble_eq_true rfl)⟩)) (fun r16 _ H locs hw hP hD _ hS => ?_)
  obtain rfl := hw.symm
  obtain ⟨hP, hD⟩ := pd_mk ((a0, .inr (9, [g5, g6, g7, .ref a2, g8, g9, g10, g11, g12, g13, g14, g15, g16, g17, g18, g19, g20, g21, g22, g23, g24, g25, g26, g27, g28, g29, g30, g31, g32, g33])) :: bX11 a2 uq kq q_q []) hP hD
  obtain ⟨o19, eo19, h⟩ := bd_of h
  refine ck_i (wc := (bX11 a2 uq kq q_q [])) (wr := ([(a0, .inr (9, [g5, g6, g7, .ref a2, g8, g9, g10, g11, g12, g13, g14, g15, g16, g17, g18, g19, g20, g21, g22, g23, g24, g25, g26, g27, g28, g29, g30, g31, g32, g33]))])) hP hD hK hS hA [1, 2, 3, 4, 5, 6, 7, 8, 9, 10, 11, 12, 13, 14, 15] [0] rfl rfl (by decide) (by decide) (by decide) (fun hPc hDc => (va_runV (As := [.int o6, .int o11, .int o16]) (rest := []) ⟨hx, hb, hml, hown, hts⟩ (kfX11_wrongBite l dC dI a2 o6 o11 o16 uq kq q_q H.size o19 eo19) (cwV 3 hts gfX12_isDark_3 rfl rfl rfl (by decide +kernel) ⟨(Nat.le_of_ble_eq_true rfl), (Nat.le_of_ble_eq_true rfl)⟩) (PV hPc (hK.sub (tys' := (tX11 kq ([]))) [0, 1, 2, 3, 4, 5, 6, 7, 8, 9, 10, 11, 12, 13] rfl) hDc hN 0 rfl rfl) rfl rfl hl.1 rfl (lv_room (Nat.le_of_ble_eq_true rfl)) (zat zrX12_isDark_0_ok 11 rfl) ⟨(Nat.le_of_ble_eq_true rfl), (Nat.le_of_ble_eq_true rfl)⟩)) (fun r19 _ H locs hw hP hD _ hS => ?_)
  obtain rfl := hw.symm
  obtain ⟨hP, hD⟩ := pd_mk ((a0, .inr (9, [g5, g6, g7, .ref a2, g8, g9, g10, g11, g12, g13, g14, g15, g16, g17, g18, g19, g20, g21, g22, g23, g24, g25, g26, g27, g28, g29, g30, g31, g32, g33])) :: bX11 a2 uq kq q_q []) hP hD
  refine lv_bipush (v := (-2)) hx hb (zat zrX12_isDark_0_ok 12 rfl) (by decide) ?_
  refine lv_icmp_ne (tgt := 31) hx hb (zat zrX12_isDark_0_ok 13 rfl) (by decide) (fun c24 => ?_) (fun c24 => ?_)
  · have h := (if_neg c24).symm.trans h
    refine lv_iconst (v := 0) hx hb (zat zrX12_isDark_0_ok 16 rfl) (by decide) ?_
    obtain rfl := Option.some.inj h
    obtain ⟨hP9, hD9⟩ := pd_sub ((a0, .inr (9, [g5, g6, g7, .ref a2, g8, g9, g10, g11, g12, g13, g14, g15, g16, g17, g18, g19, g20, g21, g22, g23, g24, g25, g26, g27, g28, g29, g30, g31, g32, g33])) :: bX11 a2 uq kq q_q []) [0, 1, 2, 3, 4, 5, 6, 7, 8, 9, 10, 11, 12, 13, 14, 15] hP hD (by decide) rfl
    have hK9 := hK.sub (tys' := []) [] rfl
    rw [hQQ]
    exact W.zret (v := (0 : Int32)) hx hb hr rfl (fun t ht hW => ⟨⟨(0 : Int32), (), rfl, ⟨rfl, (by decide)⟩, by rw [ht]; exact hP9, va_K.moved hW.alike hK9, hD9⟩, hS.F ht⟩) hS.2.2 (zat zrX12_isDark_0_ok 17 rfl)
  · have h := (if_pos c24).symm.trans h
    refine lv_iconst (v := 1) hx hb (zat zrX12_isDark_0_ok 14 rfl) (by decide) ?_
    refine lv_goto (tgt := 32) hx hb (zat zrX12_isDark_0_ok 15 rfl) (by decide) ?_
    obtain rfl := Option.some.inj h
    obtain ⟨hP9, hD9⟩ := pd_sub ((a0, .inr (9, [g5, g6, g7, .ref a2, g8, g9, g10, g11, g12, g13, g14, g15, g16, g17, g18, g19, g20, g21, g22, g23, g24, g25, g26, g27, g28, g29, g30, g31, g32, g33])) :: bX11 a2 uq kq q_q []) [0, 1, 2, 3, 4, 5, 6, 7, 8, 9, 10, 11, 12, 13, 14, 15] hP hD (by decide) rfl
    have hK9 := hK.sub (tys' := []) [] rfl
    rw [hQQ]
    exact W.zret (v := (1 : Int32)) hx hb hr rfl (fun t ht hW => ⟨⟨(1 : Int32), (), rfl, ⟨rfl, (by decide)⟩, by rw [ht]; exact hP9, va_K.moved hW.alike hK9, hD9⟩, hS.F ht⟩) hS.2.2 (zat zrX12_isDark_0_ok 17 rfl)
noncomputable def zrX12_darks_0 : List ZR := zc 0 true (.aload_n 0) 1 (zc 1 true (.iconst 0) 1 (zc 2 true (.putfield 36) 3 (zc 5 true (.aload_n 0) 1 (zc 6 true (.invokevirtual 417) 3 (zc 9 true (.istore_n 1) 1 (zc 10 true (.iload_n 1) 1 (zc 11 true (.ifCond .le 9) 3 (zc 14 true (.aload_n 0) 1 (zc 15 true (.iload_n 1) 1 (zc 16 true (.invokevirtual 42) 3 (zc 19 true (.ireturn) 1 (zc 20 true (.iconst 0) 1 (zc 21 true (.istore_n 2) 1 (zc 22 true (.iconst 0) 1 (zc 23 true (.istore_n 3) 1 (zc 24 true (.iload_n 3) 1 (zc 25 true (.aload_n 0) 1 (zc 26 true (.getfield 299) 3 (zc 29 true (.invokevirtual 374) 3 (zc 32 true (.if_icmp .ge 25) 3 (zc 35 true (.iload_n 2) 1 (zc 36 true (.aload_n 0) 1 (zc 37 true (.iload_n 3) 1 (zc 38 true (.invokevirtual 420) 3 (zc 41 true (.ifCond .eq 7) 3 (zc 44 true (.iconst 1) 1 (zc 45 true (.goto 4) 3 (zc 48 true (.iconst 0) 1 (zc 49 true (.iadd) 1 (zc 50 true (.istore_n 2) 1 (zc 51 true (.iinc 3 1) 3 (zc 54 true (.goto (-30)) 3 (zc 57 true (.aload_n 0) 1 (zc 58 true (.iload_n 2) 1 (zc 59 true (.invokevirtual 46) 3 (zc 62 true (.ireturn) 1 ([])))))))))))))))))))))))))))))))))))))
theorem zrX12_darks_0_ok : zck 0 ((zby cX12_darks).drop 0) zrX12_darks_0 = true := by decide +kernel
def vfX12_darks : List Cond := List.cons (.code yX12_darks cX12_darks 4 (some .int)) (apW [.fieldLink RX12 36 "HookPierModel" "thrown" "I", .methodLink RX12 417 yX12_refusesDark, .instanceMethod yX12_refusesDark, .selects RX12 yX12_refusesDark yX12_refusesDark, .initialized RX12, .fieldLink RX12 299 "HookPierModel" "pier" "LHookPierModel$Pier;", .methodLink RX12 374 yX11_questions, .instanceMethod yX11_questions, .selects RX11 yX11_questions yX11_questions, .initialized RX11, .methodLink RX12 46 yX12_good, .instanceMethod yX12_good, .selects RX12 yX12_good yX12_good, .methodLink RX12 420 yX12_isDark, .instanceMethod yX12_isDark, .selects RX12 yX12_isDark yX12_isDark, .methodLink RX12 42 yX12_refused, .instanceMethod yX12_refused, .selects RX12 yX12_refused yX12_refused] (apW wsX120 (apW vfX12_refusesDark (apW vfX11_questions (apW vfX12_good (apW vfX12_isDark (vfX12_refused)))))))
theorem ifX12_darks_X12 : ∀ w ∈ wsX120, w ∈ vfX12_darks := fun _ h => (List.mem_cons_of_mem _ (List.mem_append_right _ (List.mem_append_left _ h)))
theorem qfX12_darks : Good vfX12_darks := gd_cons (by decide +kernel) (gd_app (gd_dec (by decide +kernel) : Good [.fieldLink RX12 36 "HookPierModel" "thrown" "I", .methodLink RX12 417 yX12_refusesDark, .instanceMethod yX12_refusesDark, .selects RX12 yX12_refusesDark yX12_refusesDark, .initialized RX12, .fieldLink RX12 299 "HookPierModel" "pier" "LHookPierModel$Pier;", .methodLink RX12 374 yX11_questions, .instanceMethod yX11_questions, .selects RX11 yX11_questions yX11_questions, .initialized RX11, .methodLink RX12 46 yX12_good, .instanceMethod yX12_good, .selects RX12 yX12_good yX12_good, .methodLink RX12 420 yX12_isDark, .instanceMethod yX12_isDark, .selects RX12 yX12_isDark yX12_isDark, .methodLink RX12 42 yX12_refused, .instanceMethod yX12_refused, .selects RX12 yX12_refused yX12_refused]) (gd_app qsX12 (gd_app qfX12_refusesDark (gd_app qfX11_questions (gd_app qfX12_good (gd_app qfX12_isDark qfX12_refused))))))
theorem gfX12_darks_0 : GoodIn vfX12_darks (wsV RX12 417 RX12 yX12_refusesDark vfX12_refusesDark) := goodIn_app (goodIn_r [.methodLink RX12 417 yX12_refusesDark, .instanceMethod yX12_refusesDark, .selects RX12 yX12_refusesDark yX12_refusesDark, .initialized RX12] [2, 3, 4, 5] rfl (by decide +kernel)) (goodIn_m (fun _ h => (List.mem_cons_of_mem _ (List.mem_append_right _ (List.mem_append_right _ (List.mem_append_left _ h))))) qfX12_refusesDark)
theorem gfX12_darks_1 : GoodIn vfX12_darks (wsV RX12 374 RX11 yX11_questions vfX11_questions) := goodIn_app (goodIn_r [.methodLink RX12 374 yX11_questions, .instanceMethod yX11_questions, .selects RX11 yX11_questions yX11_questions, .initialized RX11] [7, 8, 9, 10] rfl (by decide +kernel)) (goodIn_m (fun _ h => (List.mem_cons_of_mem _ (List.mem_append_right _ (List.mem_append_right _ (List.mem_append_right _ (List.mem_append_left _ h)))))) qfX11_questions)
theorem gfX12_darks_2 : GoodIn vfX12_darks (wsV RX12 46 RX12 yX12_good vfX12_good) := goodIn_app (goodIn_r [.methodLink RX12 46 yX12_good, .instanceMethod yX12_good, .selects RX12 yX12_good yX12_good, .initialized RX12] [11, 12, 13, 5] rfl (by decide +kernel)) (goodIn_m (fun _ h => (List.mem_cons_of_mem _ (List.mem_append_right _ (List.mem_append_right _ (List.mem_append_right _ (List.mem_append_right _ (List.mem_append_left _ h))))))) qfX12_good)
theorem gfX12_darks_3 : GoodIn vfX12_darks (wsV RX12 420 RX12 yX12_isDark vfX12_isDark) := goodIn_app (goodIn_r [.methodLink RX12 420 yX12_isDark, .instanceMethod yX12_isDark, .selects RX12 yX12_isDark yX12_isDark, .initialized RX12] [14, 15, 16, 5] rfl (by decide +kernel)) (goodIn_m (fun _ h => (List.mem_cons_of_mem _ (List.mem_append_right _ (List.mem_append_right _ (List.mem_append_right _ (List.mem_append_right _ (List.mem_append_right _ (List.mem_append_left _ h)))))))) qfX12_isDark)
theorem gfX12_darks_4 : GoodIn vfX12_darks (wsV RX12 42 RX12 yX12_refused vfX12_refused) := goodIn_app (goodIn_r [.methodLink RX12 42 yX12_refused, .instanceMethod yX12_refused, .selects RX12 yX12_refused yX12_refused, .initialized RX12] [17, 18, 19, 5] rfl (by decide +kernel)) (goodIn_m (fun _ h => (List.mem_cons_of_mem _ (List.mem_append_right _ (List.mem_append_right _ (List.mem_append_right _ (List.mem_append_right _ (List.mem_append_right _ (List.mem_append_right _ h)))))))) qfX12_refused)
set_option maxHeartbeats 2000000 in
set_option maxRecDepth 100000 in
theorem kfX12_darks (l : Launch) (dC : Nat → ClassId) (dI : Nat → Nat → Nat) (a0 : Nat) (a1 : Nat) (uq : Nat → Nat) (kq : Nat → ClassId) (m_t : TX12_t) (g5 : Value) (g6 : Value) (g7 : Value) (g8 : Value) (g9 : Value) (g10 : Value) (g11 : Value) (g12 : Value) (g13 : Value) (g14 : Value) (g15 : Value) (g16 : Value) (g17 : Value) (g18 : Value) (g19 : Value) (g20 : Value) (g21 : Value) (g22 : Value) (g23 : Value) (g24 : Value) (g25 : Value) (g26 : Value) (g27 : Value) (g28 : Value) (g29 : Value) (g30 : Value) (q_q : TX11_q) (sz : Nat) (out : (Int32 × TX12_t)) (h : f_X12_darks m_t q_q = some out) : KCi l yX12_darks vfX12_darks ({ frames := 4, cells := 0, slots := 0, locals := 92 }) (dC, dI) [.ref a0] sz ((a0, .inr (9, [.int m_t.1, .int m_t.2.1, .int m_t.2.2, .ref a1, g5, g6, g7, g8, g9, g10, g11, g12, g13, g14, g15, g16, g17, g18, g19, g20, g21, g22, g23, g24, g25, g26, g27, g28, g29, g30])) :: bX11 a1 uq kq q_q []) (tX11 kq ([])) (fun (r : Int32) _ => r = out.1) ((a0, .inr (9, [.int out.2.1, .int out.2.2.1, .int out.2.2.2, .ref a1, g5, g6, g7, g8, g9, g10, g11, g12, g13, g14, g15, g16, g17, g18, g19, g20, g21, g22, g23, g24, g25, g26, g27, g28, g29, g30])) :: bX11 a1 uq kq q_q []) 0 0 := by
  refine Met.ofW (cc := cX12_darks) (maxL := 4) (ret := (some .int)) (by decide) rfl ?_
  intro p e s m args below meth c s₁ B0 hml hv
  obtain ⟨rfl, hsz, hP, hK, hD0, hN⟩ := hv
  have hx := B0.exec
  have hb := B0.bytes
  have hr := B0.returns
  have hts := atoms_spec (ws := vfX12_darks) B0.pre
  have hown : s.vm.findClass RX12 = some m.cls := findClass_of_methodNamed B0.named
  have hlocks := B0.notSynchronized
  subst hsz
  have hD := hD0.self (sz := s.heap.size)
  generalize hAe : va_A ((a0, .inr (9, [.int m_t.1, .int m_t.2.1, .int m_t.2.2, .ref a1, g5, g6, g7, g8, g9, g10, g11, g12, g13, g14, g15, g16, g17, g18, g19, g20, g21, g22, g23, g24, g25, g26, g27, g28, g29, g30])) :: bX11 a1 uq kq q_q []) s.heap.size = A at hD ⊢
  have hA : ∀ q : Nat, s.heap.size ≤ q → A q := fun q h => by rw [← hAe]; exact Or.inr h
  have hS : va_S A s.heap s.heap [] := va_S.rf
  have hP : va_P (dC, dI) vwCl ((a0, .inr (9, [.int m_t.1, .int m_t.2.1, .int m_t.2.2, .ref a1, g5, g6, g7, g8, g9, g10, g11, g12, g13, g14, g15, g16, g17, g18, g19, g20, g21, g22, g23, g24, g25, g26, g27, g28, g29, g30])) :: bX11 a1 uq kq q_q []) s.heap := hP
  have hl := lv_entry ([.ref a0]) (n := 4) (Nat.le_of_ble_eq_true rfl)
  rw [lg_entry_eq]
  generalize (lg_sl ([.ref a0]) ++ List.replicate (4 - (lg_sl ([.ref a0])).length) Slot.unset).toArray = ls at hl ⊢
  have hl : lv_has ls 4 [(0, .ref a0)] := hl
  refine W_q (fun QQ hQQ => ?_)
  rw [f_X12_darks] at h
  refine lv_aload_n hx hb (zat zrX12_darks_0_ok 0 rfl) rfl (lv_at hl 0 rfl) ?_
  refine lv_iconst (v := 0) hx hb (zat zrX12_darks_0_ok 1 rfl) (by decide) ?_
  refine va_put (D := (dC, dI)) (ci := 9) (v := .int 0) (ty := .int) (C := RX12) (T := TX12) (N := 30) hx hb hts ifX12_darks_X12 tyX12 tyX12_ok nmX12 hown hK hP hD hS 0 rfl rfl 0 (by decide) (hts (.fieldLink RX12 36 "HookPierModel" "thrown" "I") (List.mem_of_getElem? (i := 1) rfl)) (fun _ h9 => h9) rfl (by decide +kernel) rfl rfl (Nat.le_of_ble_eq_true rfl) (zat zrX12_darks_0_ok 2 rfl) (fun H locs hP hD hS => ?_)
  obtain ⟨hP, hD⟩ := pd_mk ((a0, .inr (9, [.int 0, .int m_t.2.1, .int m_t.2.2, .ref a1, g5, g6, g7, g8, g9, g10, g11, g12, g13, g14, g15, g16, g17, g18, g19, g20, g21, g22, g23, g24, g25, g26, g27, g28, g29, g30])) :: bX11 a1 uq kq q_q []) hP hD
  refine lv_aload_n hx hb (zat zrX12_darks_0_ok 3 rfl) rfl (lv_at hl 0 rfl) ?_
  obtain ⟨o6, eo6⟩ : ∃ o, o = f_X12_refusesDark q_q := ⟨_, rfl⟩
  have h := nm_of h o6 eo6
  refine ck_i (wc := ((a0, .inr (9, [.int 0, .int m_t.2.1, .int m_t.2.2, .ref a1, g5, g6, g7, g8, g9, g10, g11, g12, g13, g14, g15, g16, g17, g18, g19, g20, g21, g22, g23, g24, g25, g26, g27, g28, g29, g30])) :: bX11 a1 uq kq q_q [])) (wr := []) hP hD hK hS hA [0, 1, 2, 3, 4, 5, 6, 7, 8, 9, 10, 11, 12, 13, 14, 15] [] rfl rfl (by decide) (by decide) (by decide) (fun hPc hDc => (va_runV (As := []) (rest := []) ⟨hx, hb, hml, hown, hts⟩ (kfX12_refusesDark l dC dI a0 a1 uq kq (.int 0) (.int m_t.2.1) (.int m_t.2.2) (g5) (g6) (g7) (g8) (g9) (g10) (g11) (g12) (g13) (g14) (g15) (g16) (g17) (g18) (g19) (g20) (g21) (g22) (g23) (g24) (g25) (g26) (g27) (g28) (g29) (g30) q_q H.size o6 eo6.symm) (cwV 0 hts gfX12_darks_0 rfl rfl rfl (by decide +kernel) ⟨(Nat.le_of_ble_eq_true rfl), (Nat.le_of_ble_eq_true rfl)⟩) (PV hPc (hK.sub (tys' := (tX11 kq ([]))) [0, 1, 2, 3, 4, 5, 6, 7, 8, 9, 10, 11, 12, 13] rfl) hDc hN 0 rfl rfl) rfl rfl hl.1 rfl (lv_room (Nat.le_of_ble_eq_true rfl)) (zat zrX12_darks_0_ok 4 rfl) ⟨(Nat.le_of_ble_eq_true rfl), (Nat.le_of_ble_eq_true rfl)⟩)) (fun r6 _ H locs hw hP hD _ hS => ?_)
  obtain rfl := hw.symm
  obtain ⟨hP, hD⟩ := pd_mk ((a0, .inr (9, [.int 0, .int m_t.2.1, .int m_t.2.2, .ref a1, g5, g6, g7, g8, g9, g10, g11, g12, g13, g14, g15, g16, g17, g18, g19, g20, g21, g22, g23, g24, g25, g26, g27, g28, g29, g30])) :: bX11 a1 uq kq q_q []) hP hD
  refine lv_istore_n (lv' := [(1, .int o6), (0, .ref a0)]) hx hb (zat zrX12_darks_0_ok 5 rfl) rfl hl (by decide) rfl (fun ls hl => ?_)
  refine lv_iload_n hx hb (zat zrX12_darks_0_ok 6 rfl) rfl (lv_at hl 0 rfl) ?_
  refine lv_if_le (tgt := 20) hx hb (zat zrX12_darks_0_ok 7 rfl) (by decide) (fun c11 => ?_) (fun c11 => ?_)
  · have h := (if_pos c11).symm.trans h
    refine lv_iconst (v := 0) hx hb (zat zrX12_darks_0_ok 12 rfl) (by decide) ?_
    refine lv_istore_n (lv' := [(2, .int 0), (1, .int o6), (0, .ref a0)]) hx hb (zat zrX12_darks_0_ok 13 rfl) rfl hl (by decide) rfl (fun ls hl => ?_)
    refine lv_iconst (v := 0) hx hb (zat zrX12_darks_0_ok 14 rfl) (by decide) ?_
    refine lv_istore_n (lv' := [(3, .int 0), (2, .int 0), (1, .int o6), (0, .ref a0)]) hx hb (zat zrX12_darks_0_ok 15 rfl) rfl hl (by decide) rfl (fun ls hl => ?_)
    have L24 : ∀ (n24 : Nat) (v24_l3 : Int32) (v24_l2 : Int32) (H : Heap) (locs : List Loc) (ls : Array Slot), f_X12_darks_L24 m_t q_q n24 v24_l3 v24_l2 = some out → va_P (dC, dI) vwCl ((a0, .inr (9, [.int 0, .int m_t.2.1, .int m_t.2.2, .ref a1, g5, g6, g7, g8, g9, g10, g11, g12, g13, g14, g15, g16, g17, g18, g19, g20, g21, g22, g23, g24, g25, g26, g27, g28, g29, g30])) :: bX11 a1 uq kq q_q []) H → va_D A ((a0, .inr (9, [.int 0, .int m_t.2.1, .int m_t.2.2, .ref a1, g5, g6, g7, g8, g9, g10, g11, g12, g13, g14, g15, g16, g17, g18, g19, g20, g21, g22, g23, g24, g25, g26, g27, g28, g29, g30])) :: bX11 a1 uq kq q_q []) → va_S A s.heap H locs → lv_has ls 4 [(3, .int v24_l3), (2, .int v24_l2), (0, .ref a0)] → W p l e (headSpec vfX12_darks { frames := 4, cells := 0, slots := 0, locals := 92 }).room s m ([.ref a0]).toArray below meth c H locs 0 0 QQ (F0 m 24 ls []) := by
      intro n24
      induction n24 with
      | zero =>
        intro v24_l3 v24_l2 H locs ls h  _ _ _ _
        rw [f_X12_darks_L24] at h
        cases h
      | succ n24 ih24 =>
        intro v24_l3 v24_l2 H locs ls h  hP hD hS hl
        rw [f_X12_darks_L24] at h
        refine lv_iload_n hx hb (zat zrX12_darks_0_ok 16 rfl) rfl (lv_at hl 0 rfl) ?_
        refine lv_aload_n hx hb (zat zrX12_darks_0_ok 17 rfl) rfl (lv_at hl 2 rfl) ?_
        refine va_get (D := (dC, dI)) (ci := 9) (v := .ref a1) (C := RX12) (T := TX12) (N := 30) hx hb hts ifX12_darks_X12 hown hK hP 0 rfl rfl 3 (by decide) (hts (.fieldLink RX12 299 "HookPierModel" "pier" "LHookPierModel$Pier;") (List.mem_of_getElem? (i := 6) rfl)) (fun _ h9 => h9) rfl (zat zrX12_darks_0_ok 18 rfl) ?_
        obtain ⟨o29, eo29⟩ : ∃ o, o = f_X11_questions q_q := ⟨_, rfl⟩
        have h := nm_of h o29 eo29
        refine ck_i (wc := (bX11 a1 uq kq q_q [])) (wr := ([(a0, .inr (9, [.int 0, .int m_t.2.1, .int m_t.2.2, .ref a1, g5, g6, g7, g8, g9, g10, g11, g12, g13, g14, g15, g16, g17, g18, g19, g20, g21, g22, g23, g24, g25, g26, g27, g28, g29, g30]))])) hP hD hK hS hA [1, 2, 3, 4, 5, 6, 7, 8, 9, 10, 11, 12, 13, 14, 15] [0] rfl rfl (by decide) (by decide) (by decide) (fun hPc hDc => (va_runV (As := []) (rest := [.int v24_l3]) ⟨hx, hb, hml, hown, hts⟩ (kfX11_questions l dC dI a1 uq kq q_q H.size o29 eo29.symm) (cwV 0 hts gfX12_darks_1 rfl rfl rfl (by decide +kernel) ⟨(Nat.le_of_ble_eq_true rfl), (Nat.le_of_ble_eq_true rfl)⟩) (PV hPc (hK.sub (tys' := (tX11 kq ([]))) [0, 1, 2, 3, 4, 5, 6, 7, 8, 9, 10, 11, 12, 13] rfl) hDc hN 0 rfl rfl) rfl rfl hl.1 rfl (lv_room (Nat.le_of_ble_eq_true rfl)) (zat zrX12_darks_0_ok 19 rfl) ⟨(Nat.le_of_ble_eq_true rfl), (Nat.le_of_ble_eq_true rfl)⟩)) (fun r29 _ H locs hw hP hD _ hS => ?_)
        obtain rfl := hw.symm
        obtain ⟨hP, hD⟩ := pd_mk ((a0, .inr (9, [.int 0, .int m_t.2.1, .int m_t.2.2, .ref a1, g5, g6, g7, g8, g9, g10, g11, g12, g13, g14, g15, g16, g17, g18, g19, g20, g21, g22, g23, g24, g25, g26, g27, g28, g29, g30])) :: bX11 a1 uq kq q_q []) hP hD
        refine lv_icmp_ge (tgt := 57) hx hb (zat zrX12_darks_0_ok 20 rfl) (by decide) (fun c32 => ?_) (fun c32 => ?_)
        · have h := (if_pos c32).symm.trans h
          refine lv_aload_n hx hb (zat zrX12_darks_0_ok 33 rfl) rfl (lv_at hl 2 rfl) ?_
          refine lv_iload_n hx hb (zat zrX12_darks_0_ok 34 rfl) rfl (lv_at hl 1 rfl) ?_
          obtain ⟨o59, eo59⟩ : ∃ o, o = f_X12_good v24_l2 ((0 : Int32), m_t.2) := ⟨_, rfl⟩
          have h := nm_of h o59 eo59
          refine ck_i (wc := ([(a0, .inr (9, [.int 0, .int m_t.2.1, .int m_t.2.2, .ref a1, g5, g6, g7, g8, g9, g10, g11, g12, g13, g14, g15, g16, g17, g18, g19, g20, g21, g22, g23, g24, g25, g26, g27, g28, g29, g30]))])) (wr := (bX11 a1 uq kq q_q [])) hP hD hK hS hA [0] [1, 2, 3, 4, 5, 6, 7, 8, 9, 10, 11, 12, 13, 14, 15] rfl rfl (by decide) (by decide) (by decide) (fun hPc hDc => (va_runV (As := [.int v24_l2]) (rest := []) ⟨hx, hb, hml, hown, hts⟩ (kfX12_good l dC dI a0 v24_l2 ((0 : Int32), m_t.2) (.ref a1) (g5) (g6) (g7) (g8) (g9) (g10) (g11) (g12) (g13) (g14) (g15) (g16) (g17) (g18) (g19) (g20) (g21) (g22) (g23) (g24) (g25) (g26) (g27) (g28) (g29) (g30) H.size o59 eo59.symm) (cwV 1 hts gfX12_darks_2 rfl rfl rfl (by decide +kernel) ⟨(Nat.le_of_ble_eq_true rfl), (Nat.le_of_ble_eq_true rfl)⟩) (PV hPc (hK.sub (tys' := ([])) [] rfl) hDc hN 0 rfl rfl) rfl rfl hl.1 rfl (lv_room (Nat.le_of_ble_eq_true rfl)) (zat zrX12_darks_0_ok 35 rfl) ⟨(Nat.le_of_ble_eq_true rfl), (Nat.le_of_ble_eq_true rfl)⟩)) (fun r59 _ H locs hw hP hD _ hS => ?_)
          obtain rfl := hw
          obtain ⟨hP, hD⟩ := pd_mk (bX11 a1 uq kq q_q ([(a0, .inr (9, [.int o59.2.1, .int o59.2.2.1, .int o59.2.2.2, .ref a1, g5, g6, g7, g8, g9, g10, g11, g12, g13, g14, g15, g16, g17, g18, g19, g20, g21, g22, g23, g24, g25, g26, g27, g28, g29, g30]))])) hP hD
          obtain rfl := Option.some.inj h
          obtain ⟨hP9, hD9⟩ := pd_sub ((a0, .inr (9, [.int o59.2.1, .int o59.2.2.1, .int o59.2.2.2, .ref a1, g5, g6, g7, g8, g9, g10, g11, g12, g13, g14, g15, g16, g17, g18, g19, g20, g21, g22, g23, g24, g25, g26, g27, g28, g29, g30])) :: bX11 a1 uq kq q_q []) [15, 0, 1, 2, 3, 4, 5, 6, 7, 8, 9, 10, 11, 12, 13, 14] hP hD (by decide) rfl
          have hK9 := hK.sub (tys' := []) [] rfl
          rw [hQQ]
          exact W.iret (v := o59.1) hx hb hr (fun t ht hW => ⟨⟨o59.1, (), rfl, rfl, by rw [ht]; exact hP9, va_K.moved hW.alike hK9, hD9⟩, hS.F ht⟩) hS.2.2 (zat zrX12_darks_0_ok 36 rfl)
        · have h := (if_neg c32).symm.trans h
          refine lv_iload_n hx hb (zat zrX12_darks_0_ok 21 rfl) rfl (lv_at hl 1 rfl) ?_
          refine lv_aload_n hx hb (zat zrX12_darks_0_ok 22 rfl) rfl (lv_at hl 2 rfl) ?_
          refine lv_iload_n hx hb (zat zrX12_darks_0_ok 23 rfl) rfl (lv_at hl 0 rfl) ?_
          obtain ⟨o38, eo38, h⟩ := bd_of h
          refine ck_i (wc := ((a0, .inr (9, [.int 0, .int m_t.2.1, .int m_t.2.2, .ref a1, g5, g6, g7, g8, g9, g10, g11, g12, g13, g14, g15, g16, g17, g18, g19, g20, g21, g22, g23, g24, g25, g26, g27, g28, g29, g30])) :: bX11 a1 uq kq q_q [])) (wr := []) hP hD hK hS hA [0, 1, 2, 3, 4, 5, 6, 7, 8, 9, 10, 11, 12, 13, 14, 15] [] rfl rfl (by decide) (by decide) (by decide) (fun hPc hDc => (va_runV (As := [.int v24_l3]) (rest := [.int v24_l2]) ⟨hx, hb, hml, hown, hts⟩ (kfX12_isDark l dC dI a0 v24_l3 a1 uq kq (.int 0) (.int m_t.2.1) (.int m_t.2.2) (g5) (g6) (g7) (g8) (g9) (g10) (g11) (g12) (g13) (g14) (g15) (g16) (g17) (g18) (g19) (g20) (g21) (g22) (g23) (g24) (g25) (g26) (g27) (g28) (g29) (g30) q_q H.size o38 eo38) (cwV 1 hts gfX12_darks_3 rfl rfl rfl (by decide +kernel) ⟨(Nat.le_of_ble_eq_true rfl), (Nat.le_of_ble_eq_true rfl)⟩) (PV hPc (hK.sub (tys' := (tX11 kq ([]))) [0, 1, 2, 3, 4, 5, 6, 7, 8, 9, 10, 11, 12, 13] rfl) hDc hN 0 rfl rfl) rfl rfl hl.1 rfl (lv_room (Nat.le_of_ble_eq_true rfl)) (zat zrX12_darks_0_ok 24 rfl) ⟨(Nat.le_of_ble_eq_true rfl), (Nat.le_of_ble_eq_true rfl)⟩)) (fun r38 _ H locs hw hP hD _ hS => ?_)
          obtain ⟨hw, br38⟩ := hw
          obtain rfl := hw.symm
          obtain ⟨hP, hD⟩ := pd_mk ((a0, .inr (9, [.int 0, .int m_t.2.1, .int m_t.2.2, .ref a1, g5, g6, g7, g8, g9, g10, g11, g12, g13, g14, g15, g16, g17, g18, g19, g20, g21, g22, g23, g24, g25, g26, g27, g28, g29, g30])) :: bX11 a1 uq kq q_q []) hP hD
          have J49 : ∀ (v49_t1 : Int32) (H : Heap) (locs : List Loc) (ls : Array Slot), f_X12_darks_J49 (f_X12_darks_L24 m_t q_q n24) v24_l2 v24_l3 v49_t1 = some out → 0 ≤ v49_t1.toInt ∧ v49_t1.toInt ≤ 1 → va_P (dC, dI) vwCl ((a0, .inr (9, [.int 0, .int m_t.2.1, .int m_t.2.2, .ref a1, g5, g6, g7, g8, g9, g10, g11, g12, g13, g14, g15, g16, g17, g18, g19, g20, g21, g22, g23, g24, g25, g26, g27, g28, g29, g30])) :: bX11 a1 uq kq q_q []) H → va_D A ((a0, .inr (9, [.int 0, .int m_t.2.1, .int m_t.2.2, .ref a1, g5, g6, g7, g8, g9, g10, g11, g12, g13, g14, g15, g16, g17, g18, g19, g20, g21, g22, g23, g24, g25, g26, g27, g28, g29, g30])) :: bX11 a1 uq kq q_q []) → va_S A s.heap H locs → lv_has ls 4 [(3, .int v24_l3), (0, .ref a0)] → W p l e (headSpec vfX12_darks { frames := 4, cells := 0, slots := 0, locals := 92 }).room s m ([.ref a0]).toArray below meth c H locs 0 0 QQ (F0 m 49 ls [.int v49_t1, .int v24_l2]) := by
            intro v49_t1 H locs ls h zb_v49_t1 hP hD hS hl
            rw [f_X12_darks_J49] at h
            refine lv_iadd hx hb (zat zrX12_darks_0_ok 29 rfl) ?_
            refine lv_istore_n (lv' := [(2, .int (v24_l2 + v49_t1)), (3, .int v24_l3), (0, .ref a0)]) hx hb (zat zrX12_darks_0_ok 30 rfl) rfl hl (by decide) rfl (fun ls hl => ?_)
            refine lv_iinc (v := (v24_l3 + (1 : Int32))) (lv' := [(3, .int (v24_l3 + (1 : Int32))), (2, .int (v24_l2 + v49_t1)), (0, .ref a0)]) hx hb (zat zrX12_darks_0_ok 31 rfl) hl (k := 1) rfl rfl (by decide) rfl (fun ls hl => ?_)
            refine lv_goto (tgt := 24) hx hb (zat zrX12_darks_0_ok 32 rfl) (by decide) ?_
            exact ih24 (v24_l3 + (1 : Int32)) (v24_l2 + v49_t1) H _ ls h  hP hD hS (lv_sub hl [0, 1, 2] rfl)
          refine lv_if_eq (tgt := 48) hx hb (zat zrX12_darks_0_ok 25 rfl) (by decide) (fun c41 => ?_) (fun c41 => ?_)
          · have h := (if_pos c41).symm.trans h
            refine lv_iconst (v := 0) hx hb (zat zrX12_darks_0_ok 28 rfl) (by decide) ?_
            exact J49 (0 : Int32) H _ ls h (by decide) hP hD hS (lv_sub hl [0, 2] rfl)
          · have h := (if_neg c41).symm.trans h
            refine lv_iconst (v := 1) hx hb (zat zrX12_darks_0_ok 26 rfl) (by decide) ?_
            refine lv_goto (tgt := 49) hx hb (zat zrX12_darks_0_ok 27 rfl) (by decide) ?_
            exact J49 (1 : Int32) H _ ls h (by decide) hP hD hS (lv_sub hl [0, 2] rfl)
    exact L24 FU (0 : Int32) (0 : Int32) H _ ls h  hP hD hS (lv_sub hl [0, 1, 3] rfl)
  · have h := (if_neg c11).symm.trans h
    refine lv_aload_n hx hb (zat zrX12_darks_0_ok 8 rfl) rfl (lv_at hl 1 rfl) ?_
    refine lv_iload_n hx hb (zat zrX12_darks_0_ok 9 rfl) rfl (lv_at hl 0 rfl) ?_
    obtain ⟨o16, eo16⟩ : ∃ o, o = f_X12_refused o6 ((0 : Int32), m_t.2) := ⟨_, rfl⟩
    have h := nm_of h o16 eo16
    refine ck_i (wc := ([(a0, .inr (9, [.int 0, .int m_t.2.1, .int m_t.2.2, .ref a1, g5, g6, g7, g8, g9, g10, g11, g12, g13, g14, g15, g16, g17, g18, g19, g20, g21, g22, g23, g24, g25, g26, g27, g28, g29, g30]))])) (wr := (bX11 a1 uq kq q_q [])) hP hD hK hS hA [0] [1, 2, 3, 4, 5, 6, 7, 8, 9, 10, 11, 12, 13, 14, 15] rfl rfl (by decide) (by decide) (by decide) (fun hPc hDc => (va_runV (As := [.int o6]) (rest := []) ⟨hx, hb, hml, hown, hts⟩ (kfX12_refused l dC dI a0 o6 ((0 : Int32), m_t.2) (.ref a1) (g5) (g6) (g7) (g8) (g9) (g10) (g11) (g12) (g13) (g14) (g15) (g16) (g17) (g18) (g19) (g20) (g21) (g22) (g23) (g24) (g25) (g26) (g27) (g28) (g29) (g30) H.size o16 eo16.symm) (cwV 1 hts gfX12_darks_4 rfl rfl rfl (by decide +kernel) ⟨(Nat.le_of_ble_eq_true rfl), (Nat.le_of_ble_eq_true rfl)⟩) (PV hPc (hK.sub (tys' := ([])) [] rfl) hDc hN 0 rfl rfl) rfl rfl hl.1 rfl (lv_room (Nat.le_of_ble_eq_true rfl)) (zat zrX12_darks_0_ok 10 rfl) ⟨(Nat.le_of_ble_eq_true rfl), (Nat.le_of_ble_eq_true rfl)⟩)) (fun r16 _ H locs hw hP hD _ hS => ?_)
    obtain rfl := hw
    obtain ⟨hP, hD⟩ := pd_mk (bX11 a1 uq kq q_q ([(a0, .inr (9, [.int o16.1, .int o16.2.1, .int o16.2.2, .ref a1, g5, g6, g7, g8, g9, g10, g11, g12, g13, g14, g15, g16, g17, g18, g19, g20, g21, g22, g23, g24, g25, g26, g27, g28, g29, g30]))])) hP hD
    obtain rfl := Option.some.inj h
    obtain ⟨hP9, hD9⟩ := pd_sub ((a0, .inr (9, [.int o16.1, .int o16.2.1, .int o16.2.2, .ref a1, g5, g6, g7, g8, g9, g10, g11, g12, g13, g14, g15, g16, g17, g18, g19, g20, g21, g22, g23, g24, g25, g26, g27, g28, g29, g30])) :: bX11 a1 uq kq q_q []) [15, 0, 1, 2, 3, 4, 5, 6, 7, 8, 9, 10, 11, 12, 13, 14] hP hD (by decide) rfl
    have hK9 := hK.sub (tys' := []) [] rfl
    rw [hQQ]
    exact W.iret (v := (-1 : Int32)) hx hb hr (fun t ht hW => ⟨⟨(-1 : Int32), (), rfl, rfl, by rw [ht]; exact hP9, va_K.moved hW.alike hK9, hD9⟩, hS.F ht⟩) hS.2.2 (zat zrX12_darks_0_ok 11 rfl)
noncomputable def zrX12_darkAt_0 : List ZR := zc 0 true (.aload_n 0) 1 (zc 1 true (.iconst 0) 1 (zc 2 true (.putfield 36) 3 (zc 5 true (.aload_n 0) 1 (zc 6 true (.invokevirtual 417) 3 (zc 9 true (.istore_n 2) 1 (zc 10 true (.iload_n 2) 1 (zc 11 true (.ifCond .le 9) 3 (zc 14 true (.aload_n 0) 1 (zc 15 true (.iload_n 2) 1 (zc 16 true (.invokevirtual 42) 3 (zc 19 true (.ireturn) 1 (zc 20 true (.iconst 0) 1 (zc 21 true (.istore_n 3) 1 (zc 22 true (.iconst 0) 1 (zc 23 true (.istore 4) 2 (zc 25 true (.iload 4) 2 (zc 27 true (.aload_n 0) 1 (zc 28 true (.getfield 299) 3 (zc 31 true (.invokevirtual 374) 3 (zc 34 true (.if_icmp .ge 40) 3 (zc 37 true (.aload_n 0) 1 (zc 38 true (.iload 4) 2 (zc 40 true (.invokevirtual 420) 3 (zc 43 true (.ifCond .ne 6) 3 (zc 46 true (.goto 22) 3 (zc 49 true (.iload_n 3) 1 (zc 50 true (.iload_n 1) 1 (zc 51 true (.if_icmp .ne 14) 3 (zc 54 true (.aload_n 0) 1 (zc 55 true (.aload_n 0) 1 (zc 56 true (.iload 4) 2 (zc 58 true (.invokevirtual 383) 3 (zc 61 true (.invokevirtual 46) 3 (zc 64 true (.ireturn) 1 (zc 65 true (.iinc 3 1) 3 (zc 68 true (.iinc 4 1) 3 (zc 71 true (.goto (-46)) 3 (zc 74 true (.aload_n 0) 1 (zc 75 true (.iconst 1) 1 (zc 76 true (.invokevirtual 42) 3 (zc 79 true (.ireturn) 1 ([]))))))))))))))))))))))))))))))))))))))))))
theorem zrX12_darkAt_0_ok : zck 0 ((zby cX12_darkAt).drop 0) zrX12_darkAt_0 = true := by decide +kernel
def vfX12_darkAt : List Cond := List.cons (.code yX12_darkAt cX12_darkAt 5 (some .int)) (apW [.fieldLink RX12 36 "HookPierModel" "thrown" "I", .methodLink RX12 417 yX12_refusesDark, .instanceMethod yX12_refusesDark, .selects RX12 yX12_refusesDark yX12_refusesDark, .initialized RX12, .fieldLink RX12 299 "HookPierModel" "pier" "LHookPierModel$Pier;", .methodLink RX12 374 yX11_questions, .instanceMethod yX11_questions, .selects RX11 yX11_questions yX11_questions, .initialized RX11, .methodLink RX12 42 yX12_refused, .instanceMethod yX12_refused, .selects RX12 yX12_refused yX12_refused, .methodLink RX12 420 yX12_isDark, .instanceMethod yX12_isDark, .selects RX12 yX12_isDark yX12_isDark, .methodLink RX12 383 yX12_codeOf, .instanceMethod yX12_codeOf, .selects RX12 yX12_codeOf yX12_codeOf, .methodLink RX12 46 yX12_good, .instanceMethod yX12_good, .selects RX12 yX12_good yX12_good] (apW wsX120 (apW vfX12_refusesDark (apW vfX11_questions (apW vfX12_refused (apW vfX12_isDark (apW vfX12_codeOf (vfX12_good))))))))
theorem ifX12_darkAt_X12 : ∀ w ∈ wsX120, w ∈ vfX12_darkAt := fun _ h => (List.mem_cons_of_mem _ (List.mem_append_right _ (List.mem_append_left _ h)))
theorem qfX12_darkAt : Good vfX12_darkAt := gd_cons (by decide +kernel) (gd_app (gd_dec (by decide +kernel) : Good [.fieldLink RX12 36 "HookPierModel" "thrown" "I", .methodLink RX12 417 yX12_refusesDark, .instanceMethod yX12_refusesDark, .selects RX12 yX12_refusesDark yX12_refusesDark, .initialized RX12, .fieldLink RX12 299 "HookPierModel" "pier" "LHookPierModel$Pier;", .methodLink RX12 374 yX11_questions, .instanceMethod yX11_questions, .selects RX11 yX11_questions yX11_questions, .initialized RX11, .methodLink RX12 42 yX12_refused, .instanceMethod yX12_refused, .selects RX12 yX12_refused yX12_refused, .methodLink RX12 420 yX12_isDark, .instanceMethod yX12_isDark, .selects RX12 yX12_isDark yX12_isDark, .methodLink RX12 383 yX12_codeOf, .instanceMethod yX12_codeOf, .selects RX12 yX12_codeOf yX12_codeOf, .methodLink RX12 46 yX12_good, .instanceMethod yX12_good, .selects RX12 yX12_good yX12_good]) (gd_app qsX12 (gd_app qfX12_refusesDark (gd_app qfX11_questions (gd_app qfX12_refused (gd_app qfX12_isDark (gd_app qfX12_codeOf qfX12_good)))))))
theorem gfX12_darkAt_0 : GoodIn vfX12_darkAt (wsV RX12 417 RX12 yX12_refusesDark vfX12_refusesDark) := goodIn_app (goodIn_r [.methodLink RX12 417 yX12_refusesDark, .instanceMethod yX12_refusesDark, .selects RX12 yX12_refusesDark yX12_refusesDark, .initialized RX12] [2, 3, 4, 5] rfl (by decide +kernel)) (goodIn_m (fun _ h => (List.mem_cons_of_mem _ (List.mem_append_right _ (List.mem_append_right _ (List.mem_append_left _ h))))) qfX12_refusesDark)
theorem gfX12_darkAt_1 : GoodIn vfX12_darkAt (wsV RX12 374 RX11 yX11_questions vfX11_questions) := goodIn_app (goodIn_r [.methodLink RX12 374 yX11_questions, .instanceMethod yX11_questions, .selects RX11 yX11_questions yX11_questions, .initialized RX11] [7, 8, 9, 10] rfl (by decide +kernel)) (goodIn_m (fun _ h => (List.mem_cons_of_mem _ (List.mem_append_right _ (List.mem_append_right _ (List.mem_append_right _ (List.mem_append_left _ h)))))) qfX11_questions)
theorem gfX12_darkAt_2 : GoodIn vfX12_darkAt (wsV RX12 42 RX12 yX12_refused vfX12_refused) := goodIn_app (goodIn_r [.methodLink RX12 42 yX12_refused, .instanceMethod yX12_refused, .selects RX12 yX12_refused yX12_refused, .initialized RX12] [11, 12, 13, 5] rfl (by decide +kernel)) (goodIn_m (fun _ h => (List.mem_cons_of_mem _ (List.mem_append_right _ (List.mem_append_right _ (List.mem_append_right _ (List.mem_append_right _ (List.mem_append_left _ h))))))) qfX12_refused)
theorem gfX12_darkAt_3 : GoodIn vfX12_darkAt (wsV RX12 420 RX12 yX12_isDark vfX12_isDark) := goodIn_app (goodIn_r [.methodLink RX12 420 yX12_isDark, .instanceMethod yX12_isDark, .selects RX12 yX12_isDark yX12_isDark, .initialized RX12] [14, 15, 16, 5] rfl (by decide +kernel)) (goodIn_m (fun _ h => (List.mem_cons_of_mem _ (List.mem_append_right _ (List.mem_append_right _ (List.mem_append_right _ (List.mem_append_right _ (List.mem_append_right _ (List.mem_append_left _ h)))))))) qfX12_isDark)
theorem gfX12_darkAt_4 : GoodIn vfX12_darkAt (wsV RX12 383 RX12 yX12_codeOf vfX12_codeOf) := goodIn_app (goodIn_r [.methodLink RX12 383 yX12_codeOf, .instanceMethod yX12_codeOf, .selects RX12 yX12_codeOf yX12_codeOf, .initialized RX12] [17, 18, 19, 5] rfl (by decide +kernel)) (goodIn_m (fun _ h => (List.mem_cons_of_mem _ (List.mem_append_right _ (List.mem_append_right _ (List.mem_append_right _ (List.mem_append_right _ (List.mem_append_right _ (List.mem_append_right _ (List.mem_append_left _ h))))))))) qfX12_codeOf)
theorem gfX12_darkAt_5 : GoodIn vfX12_darkAt (wsV RX12 46 RX12 yX12_good vfX12_good) := goodIn_app (goodIn_r [.methodLink RX12 46 yX12_good, .instanceMethod yX12_good, .selects RX12 yX12_good yX12_good, .initialized RX12] [20, 21, 22, 5] rfl (by decide +kernel)) (goodIn_m (fun _ h => (List.mem_cons_of_mem _ (List.mem_append_right _ (List.mem_append_right _ (List.mem_append_right _ (List.mem_append_right _ (List.mem_append_right _ (List.mem_append_right _ (List.mem_append_right _ h))))))))) qfX12_good)
set_option maxHeartbeats 2000000 in
set_option maxRecDepth 100000 in
theorem kfX12_darkAt (l : Launch) (dC : Nat → ClassId) (dI : Nat → Nat → Nat) (a0 : Nat) (k1 : Int32) (a2 : Nat) (uq : Nat → Nat) (kq : Nat → ClassId) (m_t : TX12_t) (g6 : Value) (g7 : Value) (g8 : Value) (g9 : Value) (g10 : Value) (g11 : Value) (g12 : Value) (g13 : Value) (g14 : Value) (g15 : Value) (g16 : Value) (g17 : Value) (g18 : Value) (g19 : Value) (g20 : Value) (g21 : Value) (g22 : Value) (g23 : Value) (g24 : Value) (g25 : Value) (g26 : Value) (g27 : Value) (g28 : Value) (g29 : Value) (g30 : Value) (g31 : Value) (q_q : TX11_q) (sz : Nat) (out : (Int32 × TX12_t)) (h : f_X12_darkAt k1 m_t q_q = some out) : KCi l yX12_darkAt vfX12_darkAt ({ frames := 4, cells := 0, slots := 0, locals := 92 }) (dC, dI) [.ref a0, .int k1] sz ((a0, .inr (9, [.int m_t.1, .int m_t.2.1, .int m_t.2.2, .ref a2, g6, g7, g8, g9, g10, g11, g12, g13, g14, g15, g16, g17, g18, g19, g20, g21, g22, g23, g24, g25, g26, g27, g28, g29, g30, g31])) :: bX11 a2 uq kq q_q []) (tX11 kq ([])) (fun (r : Int32) _ => r = out.1) ((a0, .inr (9, [.int out.2.1, .int out.2.2.1, .int out.2.2.2, .ref a2, g6, g7, g8, g9, g10, g11, g12, g13, g14, g15, g16, g17, g18, g19, g20, g21, g22, g23, g24, g25, g26, g27, g28, g29, g30, g31])) :: bX11 a2 uq kq q_q []) 0 0 := by
  refine Met.ofW (cc := cX12_darkAt) (maxL := 5) (ret := (some .int)) (by decide) rfl ?_
  intro p e s m args below meth c s₁ B0 hml hv
  obtain ⟨rfl, hsz, hP, hK, hD0, hN⟩ := hv
  have hx := B0.exec
  have hb := B0.bytes
  have hr := B0.returns
  have hts := atoms_spec (ws := vfX12_darkAt) B0.pre
  have hown : s.vm.findClass RX12 = some m.cls := findClass_of_methodNamed B0.named
  have hlocks := B0.notSynchronized
  subst hsz
  have hD := hD0.self (sz := s.heap.size)
  generalize hAe : va_A ((a0, .inr (9, [.int m_t.1, .int m_t.2.1, .int m_t.2.2, .ref a2, g6, g7, g8, g9, g10, g11, g12, g13, g14, g15, g16, g17, g18, g19, g20, g21, g22, g23, g24, g25, g26, g27, g28, g29, g30, g31])) :: bX11 a2 uq kq q_q []) s.heap.size = A at hD ⊢
  have hA : ∀ q : Nat, s.heap.size ≤ q → A q := fun q h => by rw [← hAe]; exact Or.inr h
  have hS : va_S A s.heap s.heap [] := va_S.rf
  have hP : va_P (dC, dI) vwCl ((a0, .inr (9, [.int m_t.1, .int m_t.2.1, .int m_t.2.2, .ref a2, g6, g7, g8, g9, g10, g11, g12, g13, g14, g15, g16, g17, g18, g19, g20, g21, g22, g23, g24, g25, g26, g27, g28, g29, g30, g31])) :: bX11 a2 uq kq q_q []) s.heap := hP
  have hl := lv_entry ([.ref a0, .int k1]) (n := 5) (Nat.le_of_ble_eq_true rfl)
  rw [lg_entry_eq]
  generalize (lg_sl ([.ref a0, .int k1]) ++ List.replicate (5 - (lg_sl ([.ref a0, .int k1])).length) Slot.unset).toArray = ls at hl ⊢
  have hl : lv_has ls 5 [(0, .ref a0), (1, .int k1)] := hl
  refine W_q (fun QQ hQQ => ?_)
  rw [f_X12_darkAt] at h
  refine lv_aload_n hx hb (zat zrX12_darkAt_0_ok 0 rfl) rfl (lv_at hl 0 rfl) ?_
  refine lv_iconst (v := 0) hx hb (zat zrX12_darkAt_0_ok 1 rfl) (by decide) ?_
  refine va_put (D := (dC, dI)) (ci := 9) (v := .int 0) (ty := .int) (C := RX12) (T := TX12) (N := 30) hx hb hts ifX12_darkAt_X12 tyX12 tyX12_ok nmX12 hown hK hP hD hS 0 rfl rfl 0 (by decide) (hts (.fieldLink RX12 36 "HookPierModel" "thrown" "I") (List.mem_of_getElem? (i := 1) rfl)) (fun _ h9 => h9) rfl (by decide +kernel) rfl rfl (Nat.le_of_ble_eq_true rfl) (zat zrX12_darkAt_0_ok 2 rfl) (fun H locs hP hD hS => ?_)
  obtain ⟨hP, hD⟩ := pd_mk ((a0, .inr (9, [.int 0, .int m_t.2.1, .int m_t.2.2, .ref a2, g6, g7, g8, g9, g10, g11, g12, g13, g14, g15, g16, g17, g18, g19, g20, g21, g22, g23, g24, g25, g26, g27, g28, g29, g30, g31])) :: bX11 a2 uq kq q_q []) hP hD
  refine lv_aload_n hx hb (zat zrX12_darkAt_0_ok 3 rfl) rfl (lv_at hl 0 rfl) ?_
  obtain ⟨o6, eo6⟩ : ∃ o, o = f_X12_refusesDark q_q := ⟨_, rfl⟩
  have h := nm_of h o6 eo6
  refine ck_i (wc := ((a0, .inr (9, [.int 0, .int m_t.2.1, .int m_t.2.2, .ref a2, g6, g7, g8, g9, g10, g11, g12, g13, g14, g15, g16, g17, g18, g19, g20, g21, g22, g23, g24, g25, g26, g27, g28, g29, g30, g31])) :: bX11 a2 uq kq q_q [])) (wr := []) hP hD hK hS hA [0, 1, 2, 3, 4, 5, 6, 7, 8, 9, 10, 11, 12, 13, 14, 15] [] rfl rfl (by decide) (by decide) (by decide) (fun hPc hDc => (va_runV (As := []) (rest := []) ⟨hx, hb, hml, hown, hts⟩ (kfX12_refusesDark l dC dI a0 a2 uq kq (.int 0) (.int m_t.2.1) (.int m_t.2.2) (g6) (g7) (g8) (g9) (g10) (g11) (g12) (g13) (g14) (g15) (g16) (g17) (g18) (g19) (g20) (g21) (g22) (g23) (g24) (g25) (g26) (g27) (g28) (g29) (g30) (g31) q_q H.size o6 eo6.symm) (cwV 0 hts gfX12_darkAt_0 rfl rfl rfl (by decide +kernel) ⟨(Nat.le_of_ble_eq_true rfl), (Nat.le_of_ble_eq_true rfl)⟩) (PV hPc (hK.sub (tys' := (tX11 kq ([]))) [0, 1, 2, 3, 4, 5, 6, 7, 8, 9, 10, 11, 12, 13] rfl) hDc hN 0 rfl rfl) rfl rfl hl.1 rfl (lv_room (Nat.le_of_ble_eq_true rfl)) (zat zrX12_darkAt_0_ok 4 rfl) ⟨(Nat.le_of_ble_eq_true rfl), (Nat.le_of_ble_eq_true rfl)⟩)) (fun r6 _ H locs hw hP hD _ hS => ?_)
  obtain rfl := hw.symm
  obtain ⟨hP, hD⟩ := pd_mk ((a0, .inr (9, [.int 0, .int m_t.2.1, .int m_t.2.2, .ref a2, g6, g7, g8, g9, g10, g11, g12, g13, g14, g15, g16, g17, g18, g19, g20, g21, g22, g23, g24, g25, g26, g27, g28, g29, g30, g31])) :: bX11 a2 uq kq q_q []) hP hD
  refine lv_istore_n (lv' := [(2, .int o6), (0, .ref a0), (1, .int k1)]) hx hb (zat zrX12_darkAt_0_ok 5 rfl) rfl hl (by decide) rfl (fun ls hl => ?_)
  refine lv_iload_n hx hb (zat zrX12_darkAt_0_ok 6 rfl) rfl (lv_at hl 0 rfl) ?_
  refine lv_if_le (tgt := 20) hx hb (zat zrX12_darkAt_0_ok 7 rfl) (by decide) (fun c11 => ?_) (fun c11 => ?_)
  · have h := (if_pos c11).symm.trans h
    refine lv_iconst (v := 0) hx hb (zat zrX12_darkAt_0_ok 12 rfl) (by decide) ?_
    refine lv_istore_n (lv' := [(3, .int 0), (2, .int o6), (0, .ref a0), (1, .int k1)]) hx hb (zat zrX12_darkAt_0_ok 13 rfl) rfl hl (by decide) rfl (fun ls hl => ?_)
    refine lv_iconst (v := 0) hx hb (zat zrX12_darkAt_0_ok 14 rfl) (by decide) ?_
    refine lv_istore (lv' := [(4, .int 0), (3, .int 0), (2, .int o6), (0, .ref a0), (1, .int k1)]) hx hb (zat zrX12_darkAt_0_ok 15 rfl) hl (by decide) rfl (fun ls hl => ?_)
    have L25 : ∀ (n25 : Nat) (v25_l4 : Int32) (v25_l3 : Int32) (H : Heap) (locs : List Loc) (ls : Array Slot), f_X12_darkAt_L25 k1 m_t q_q n25 v25_l4 v25_l3 = some out → va_P (dC, dI) vwCl ((a0, .inr (9, [.int 0, .int m_t.2.1, .int m_t.2.2, .ref a2, g6, g7, g8, g9, g10, g11, g12, g13, g14, g15, g16, g17, g18, g19, g20, g21, g22, g23, g24, g25, g26, g27, g28, g29, g30, g31])) :: bX11 a2 uq kq q_q []) H → va_D A ((a0, .inr (9, [.int 0, .int m_t.2.1, .int m_t.2.2, .ref a2, g6, g7, g8, g9, g10, g11, g12, g13, g14, g15, g16, g17, g18, g19, g20, g21, g22, g23, g24, g25, g26, g27, g28, g29, g30, g31])) :: bX11 a2 uq kq q_q []) → va_S A s.heap H locs → lv_has ls 5 [(4, .int v25_l4), (3, .int v25_l3), (0, .ref a0), (1, .int k1)] → W p l e (headSpec vfX12_darkAt { frames := 4, cells := 0, slots := 0, locals := 92 }).room s m ([.ref a0, .int k1]).toArray below meth c H locs 0 0 QQ (F0 m 25 ls []) := by
      intro n25
      induction n25 with
      | zero =>
        intro v25_l4 v25_l3 H locs ls h  _ _ _ _
        rw [f_X12_darkAt_L25] at h
        cases h
      | succ n25 ih25 =>
        intro v25_l4 v25_l3 H locs ls h  hP hD hS hl
        rw [f_X12_darkAt_L25] at h
        refine lv_iload hx hb (zat zrX12_darkAt_0_ok 16 rfl) (lv_at hl 0 rfl) ?_
        refine lv_aload_n hx hb (zat zrX12_darkAt_0_ok 17 rfl) rfl (lv_at hl 2 rfl) ?_
        refine va_get (D := (dC, dI)) (ci := 9) (v := .ref a2) (C := RX12) (T := TX12) (N := 30) hx hb hts ifX12_darkAt_X12 hown hK hP 0 rfl rfl 3 (by decide) (hts (.fieldLink RX12 299 "HookPierModel" "pier" "LHookPierModel$Pier;") (List.mem_of_getElem? (i := 6) rfl)) (fun _ h9 => h9) rfl (zat zrX12_darkAt_0_ok 18 rfl) ?_
        obtain ⟨o31, eo31⟩ : ∃ o, o = f_X11_questions q_q := ⟨_, rfl⟩
        have h := nm_of h o31 eo31
        refine ck_i (wc := (bX11 a2 uq kq q_q [])) (wr := ([(a0, .inr (9, [.int 0, .int m_t.2.1, .int m_t.2.2, .ref a2, g6, g7, g8, g9, g10, g11, g12, g13, g14, g15, g16, g17, g18, g19, g20, g21, g22, g23, g24, g25, g26, g27, g28, g29, g30, g31]))])) hP hD hK hS hA [1, 2, 3, 4, 5, 6, 7, 8, 9, 10, 11, 12, 13, 14, 15] [0] rfl rfl (by decide) (by decide) (by decide) (fun hPc hDc => (va_runV (As := []) (rest := [.int v25_l4]) ⟨hx, hb, hml, hown, hts⟩ (kfX11_questions l dC dI a2 uq kq q_q H.size o31 eo31.symm) (cwV 0 hts gfX12_darkAt_1 rfl rfl rfl (by decide +kernel) ⟨(Nat.le_of_ble_eq_true rfl), (Nat.le_of_ble_eq_true rfl)⟩) (PV hPc (hK.sub (tys' := (tX11 kq ([]))) [0, 1, 2, 3, 4, 5, 6, 7, 8, 9, 10, 11, 12, 13] rfl) hDc hN 0 rfl rfl) rfl rfl hl.1 rfl (lv_room (Nat.le_of_ble_eq_true rfl)) (zat zrX12_darkAt_0_ok 19 rfl) ⟨(Nat.le_of_ble_eq_true rfl), (Nat.le_of_ble_eq_true rfl)⟩)) (fun r31 _ H locs hw hP hD _ hS => ?_)
        obtain rfl := hw.symm
        obtain ⟨hP, hD⟩ := pd_mk ((a0, .inr (9, [.int 0, .int m_t.2.1, .int m_t.2.2, .ref a2, g6, g7, g8, g9, g10, g11, g12, g13, g14, g15, g16, g17, g18, g19, g20, g21, g22, g23, g24, g25, g26, g27, g28, g29, g30, g31])) :: bX11 a2 uq kq q_q []) hP hD
        refine lv_icmp_ge (tgt := 74) hx hb (zat zrX12_darkAt_0_ok 20 rfl) (by decide) (fun c34 => ?_) (fun c34 => ?_)
        · have h := (if_pos c34).symm.trans h
          refine lv_aload_n hx hb (zat zrX12_darkAt_0_ok 38 rfl) rfl (lv_at hl 2 rfl) ?_
          refine lv_iconst (v := 1) hx hb (zat zrX12_darkAt_0_ok 39 rfl) (by decide) ?_
          obtain ⟨o76, eo76⟩ : ∃ o, o = f_X12_refused (1 : Int32) ((0 : Int32), m_t.2) := ⟨_, rfl⟩
          have h := nm_of h o76 eo76
          refine ck_i (wc := ([(a0, .inr (9, [.int 0, .int m_t.2.1, .int m_t.2.2, .ref a2, g6, g7, g8, g9, g10, g11, g12, g13, g14, g15, g16, g17, g18, g19, g20, g21, g22, g23, g24, g25, g26, g27, g28, g29, g30, g31]))])) (wr := (bX11 a2 uq kq q_q [])) hP hD hK hS hA [0] [1, 2, 3, 4, 5, 6, 7, 8, 9, 10, 11, 12, 13, 14, 15] rfl rfl (by decide) (by decide) (by decide) (fun hPc hDc => (va_runV (As := [.int 1]) (rest := []) ⟨hx, hb, hml, hown, hts⟩ (kfX12_refused l dC dI a0 (1 : Int32) ((0 : Int32), m_t.2) (.ref a2) (g6) (g7) (g8) (g9) (g10) (g11) (g12) (g13) (g14) (g15) (g16) (g17) (g18) (g19) (g20) (g21) (g22) (g23) (g24) (g25) (g26) (g27) (g28) (g29) (g30) (g31) H.size o76 eo76.symm) (cwV 1 hts gfX12_darkAt_2 rfl rfl rfl (by decide +kernel) ⟨(Nat.le_of_ble_eq_true rfl), (Nat.le_of_ble_eq_true rfl)⟩) (PV hPc (hK.sub (tys' := ([])) [] rfl) hDc hN 0 rfl rfl) rfl rfl hl.1 rfl (lv_room (Nat.le_of_ble_eq_true rfl)) (zat zrX12_darkAt_0_ok 40 rfl) ⟨(Nat.le_of_ble_eq_true rfl), (Nat.le_of_ble_eq_true rfl)⟩)) (fun r76 _ H locs hw hP hD _ hS => ?_)
          obtain rfl := hw
          obtain ⟨hP, hD⟩ := pd_mk (bX11 a2 uq kq q_q ([(a0, .inr (9, [.int o76.1, .int o76.2.1, .int o76.2.2, .ref a2, g6, g7, g8, g9, g10, g11, g12, g13, g14, g15, g16, g17, g18, g19, g20, g21, g22, g23, g24, g25, g26, g27, g28, g29, g30, g31]))])) hP hD
          obtain rfl := Option.some.inj h
          obtain ⟨hP9, hD9⟩ := pd_sub ((a0, .inr (9, [.int o76.1, .int o76.2.1, .int o76.2.2, .ref a2, g6, g7, g8, g9, g10, g11, g12, g13, g14, g15, g16, g17, g18, g19, g20, g21, g22, g23, g24, g25, g26, g27, g28, g29, g30, g31])) :: bX11 a2 uq kq q_q []) [15, 0, 1, 2, 3, 4, 5, 6, 7, 8, 9, 10, 11, 12, 13, 14] hP hD (by decide) rfl
          have hK9 := hK.sub (tys' := []) [] rfl
          rw [hQQ]
          exact W.iret (v := (-1 : Int32)) hx hb hr (fun t ht hW => ⟨⟨(-1 : Int32), (), rfl, rfl, by rw [ht]; exact hP9, va_K.moved hW.alike hK9, hD9⟩, hS.F ht⟩) hS.2.2 (zat zrX12_darkAt_0_ok 41 rfl)
        · have h := (if_neg c34).symm.trans h
          refine lv_aload_n hx hb (zat zrX12_darkAt_0_ok 21 rfl) rfl (lv_at hl 2 rfl) ?_
          refine lv_iload hx hb (zat zrX12_darkAt_0_ok 22 rfl) (lv_at hl 0 rfl) ?_
          obtain ⟨o40, eo40, h⟩ := bd_of h
          refine ck_i (wc := ((a0, .inr (9, [.int 0, .int m_t.2.1, .int m_t.2.2, .ref a2, g6, g7, g8, g9, g10, g11, g12, g13, g14, g15, g16, g17, g18, g19, g20, g21, g22, g23, g24, g25, g26, g27, g28, g29, g30, g31])) :: bX11 a2 uq kq q_q [])) (wr := []) hP hD hK hS hA [0, 1, 2, 3, 4, 5, 6, 7, 8, 9, 10, 11, 12, 13, 14, 15] [] rfl rfl (by decide) (by decide) (by decide) (fun hPc hDc => (va_runV (As := [.int v25_l4]) (rest := []) ⟨hx, hb, hml, hown, hts⟩ (kfX12_isDark l dC dI a0 v25_l4 a2 uq kq (.int 0) (.int m_t.2.1) (.int m_t.2.2) (g6) (g7) (g8) (g9) (g10) (g11) (g12) (g13) (g14) (g15) (g16) (g17) (g18) (g19) (g20) (g21) (g22) (g23) (g24) (g25) (g26) (g27) (g28) (g29) (g30) (g31) q_q H.size o40 eo40) (cwV 1 hts gfX12_darkAt_3 rfl rfl rfl (by decide +kernel) ⟨(Nat.le_of_ble_eq_true rfl), (Nat.le_of_ble_eq_true rfl)⟩) (PV hPc (hK.sub (tys' := (tX11 kq ([]))) [0, 1, 2, 3, 4, 5, 6, 7, 8, 9, 10, 11, 12, 13] rfl) hDc hN 0 rfl rfl) rfl rfl hl.1 rfl (lv_room (Nat.le_of_ble_eq_true rfl)) (zat zrX12_darkAt_0_ok 23 rfl) ⟨(Nat.le_of_ble_eq_true rfl), (Nat.le_of_ble_eq_true rfl)⟩)) (fun r40 _ H locs hw hP hD _ hS => ?_)
          obtain ⟨hw, br40⟩ := hw
          obtain rfl := hw.symm
          obtain ⟨hP, hD⟩ := pd_mk ((a0, .inr (9, [.int 0, .int m_t.2.1, .int m_t.2.2, .ref a2, g6, g7, g8, g9, g10, g11, g12, g13, g14, g15, g16, g17, g18, g19, g20, g21, g22, g23, g24, g25, g26, g27, g28, g29, g30, g31])) :: bX11 a2 uq kq q_q []) hP hD
          have J68 : ∀ (v68_l3 : Int32) (H : Heap) (locs : List Loc) (ls : Array Slot), f_X12_darkAt_J68 (f_X12_darkAt_L25 k1 m_t q_q n25) v25_l4 v68_l3 = some out → va_P (dC, dI) vwCl ((a0, .inr (9, [.int 0, .int m_t.2.1, .int m_t.2.2, .ref a2, g6, g7, g8, g9, g10, g11, g12, g13, g14, g15, g16, g17, g18, g19, g20, g21, g22, g23, g24, g25, g26, g27, g28, g29, g30, g31])) :: bX11 a2 uq kq q_q []) H → va_D A ((a0, .inr (9, [.int 0, .int m_t.2.1, .int m_t.2.2, .ref a2, g6, g7, g8, g9, g10, g11, g12, g13, g14, g15, g16, g17, g18, g19, g20, g21, g22, g23, g24, g25, g26, g27, g28, g29, g30, g31])) :: bX11 a2 uq kq q_q []) → va_S A s.heap H locs → lv_has ls 5 [(3, .int v68_l3), (4, .int v25_l4), (0, .ref a0), (1, .int k1)] → W p l e (headSpec vfX12_darkAt { frames := 4, cells := 0, slots := 0, locals := 92 }).room s m ([.ref a0, .int k1]).toArray below meth c H locs 0 0 QQ (F0 m 68 ls []) := by
            intro v68_l3 H locs ls h  hP hD hS hl
            rw [f_X12_darkAt_J68] at h
            refine lv_iinc (v := (v25_l4 + (1 : Int32))) (lv' := [(4, .int (v25_l4 + (1 : Int32))), (3, .int v68_l3), (0, .ref a0), (1, .int k1)]) hx hb (zat zrX12_darkAt_0_ok 36 rfl) hl (k := 1) rfl rfl (by decide) rfl (fun ls hl => ?_)
            refine lv_goto (tgt := 25) hx hb (zat zrX12_darkAt_0_ok 37 rfl) (by decide) ?_
            exact ih25 (v25_l4 + (1 : Int32)) v68_l3 H _ ls h  hP hD hS (lv_sub hl [0, 1, 2, 3] rfl)
          refine lv_if_ne (tgt := 49) hx hb (zat zrX12_darkAt_0_ok 24 rfl) (by decide) (fun c43 => ?_) (fun c43 => ?_)
          · have h := (if_neg c43).symm.trans h
            refine lv_iload_n hx hb (zat zrX12_darkAt_0_ok 26 rfl) rfl (lv_at hl 1 rfl) ?_
            refine lv_iload_n hx hb (zat zrX12_darkAt_0_ok 27 rfl) rfl (lv_at hl 3 rfl) ?_
            refine lv_icmp_ne (tgt := 65) hx hb (zat zrX12_darkAt_0_ok 28 rfl) (by decide) (fun c51 => ?_) (fun c51 => ?_)
            · have h := (if_neg c51).symm.trans h
              refine lv_iinc (v := (v25_l3 + (1 : Int32))) (lv' := [(3, .int (v25_l3 + (1 : Int32))), (4, .int v25_l4), (0, .ref a0), (1, .int k1)]) hx hb (zat zrX12_darkAt_0_ok 35 rfl) hl (k := 1) rfl rfl (by decide) rfl (fun ls hl => ?_)
              exact J68 (v25_l3 + (1 : Int32)) H _ ls h  hP hD hS (lv_sub hl [0, 1, 2, 3] rfl)
            · have h := (if_pos c51).symm.trans h
              refine lv_aload_n hx hb (zat zrX12_darkAt_0_ok 29 rfl) rfl (lv_at hl 2 rfl) ?_
              refine lv_aload_n hx hb (zat zrX12_darkAt_0_ok 30 rfl) rfl (lv_at hl 2 rfl) ?_
              refine lv_iload hx hb (zat zrX12_darkAt_0_ok 31 rfl) (lv_at hl 0 rfl) ?_
              obtain ⟨o58, eo58, h⟩ := bd_of h
              refine ck_i (wc := ((a0, .inr (9, [.int 0, .int m_t.2.1, .int m_t.2.2, .ref a2, g6, g7, g8, g9, g10, g11, g12, g13, g14, g15, g16, g17, g18, g19, g20, g21, g22, g23, g24, g25, g26, g27, g28, g29, g30, g31])) :: bX11 a2 uq kq q_q [])) (wr := []) hP hD hK hS hA [0, 1, 2, 3, 4, 5, 6, 7, 8, 9, 10, 11, 12, 13, 14, 15] [] rfl rfl (by decide) (by decide) (by decide) (fun hPc hDc => (va_runV (As := [.int v25_l4]) (rest := [.ref a0]) ⟨hx, hb, hml, hown, hts⟩ (kfX12_codeOf l dC dI a0 v25_l4 a2 uq kq (.int 0) (.int m_t.2.1) (.int m_t.2.2) (g6) (g7) (g8) (g9) (g10) (g11) (g12) (g13) (g14) (g15) (g16) (g17) (g18) (g19) (g20) (g21) (g22) (g23) (g24) (g25) (g26) (g27) (g28) (g29) (g30) (g31) q_q H.size o58 eo58) (cwV 1 hts gfX12_darkAt_4 rfl rfl rfl (by decide +kernel) ⟨(Nat.le_of_ble_eq_true rfl), (Nat.le_of_ble_eq_true rfl)⟩) (PV hPc (hK.sub (tys' := (tX11 kq ([]))) [0, 1, 2, 3, 4, 5, 6, 7, 8, 9, 10, 11, 12, 13] rfl) hDc hN 0 rfl rfl) rfl rfl hl.1 rfl (lv_room (Nat.le_of_ble_eq_true rfl)) (zat zrX12_darkAt_0_ok 32 rfl) ⟨(Nat.le_of_ble_eq_true rfl), (Nat.le_of_ble_eq_true rfl)⟩)) (fun r58 _ H locs hw hP hD _ hS => ?_)
              obtain rfl := hw.symm
              obtain ⟨hP, hD⟩ := pd_mk ((a0, .inr (9, [.int 0, .int m_t.2.1, .int m_t.2.2, .ref a2, g6, g7, g8, g9, g10, g11, g12, g13, g14, g15, g16, g17, g18, g19, g20, g21, g22, g23, g24, g25, g26, g27, g28, g29, g30, g31])) :: bX11 a2 uq kq q_q []) hP hD
              obtain ⟨o61, eo61⟩ : ∃ o, o = f_X12_good o58 ((0 : Int32), m_t.2) := ⟨_, rfl⟩
              have h := nm_of h o61 eo61
              refine ck_i (wc := ([(a0, .inr (9, [.int 0, .int m_t.2.1, .int m_t.2.2, .ref a2, g6, g7, g8, g9, g10, g11, g12, g13, g14, g15, g16, g17, g18, g19, g20, g21, g22, g23, g24, g25, g26, g27, g28, g29, g30, g31]))])) (wr := (bX11 a2 uq kq q_q [])) hP hD hK hS hA [0] [1, 2, 3, 4, 5, 6, 7, 8, 9, 10, 11, 12, 13, 14, 15] rfl rfl (by decide) (by decide) (by decide) (fun hPc hDc => (va_runV (As := [.int o58]) (rest := []) ⟨hx, hb, hml, hown, hts⟩ (kfX12_good l dC dI a0 o58 ((0 : Int32), m_t.2) (.ref a2) (g6) (g7) (g8) (g9) (g10) (g11) (g12) (g13) (g14) (g15) (g16) (g17) (g18) (g19) (g20) (g21) (g22) (g23) (g24) (g25) (g26) (g27) (g28) (g29) (g30) (g31) H.size o61 eo61.symm) (cwV 1 hts gfX12_darkAt_5 rfl rfl rfl (by decide +kernel) ⟨(Nat.le_of_ble_eq_true rfl), (Nat.le_of_ble_eq_true rfl)⟩) (PV hPc (hK.sub (tys' := ([])) [] rfl) hDc hN 0 rfl rfl) rfl rfl hl.1 rfl (lv_room (Nat.le_of_ble_eq_true rfl)) (zat zrX12_darkAt_0_ok 33 rfl) ⟨(Nat.le_of_ble_eq_true rfl), (Nat.le_of_ble_eq_true rfl)⟩)) (fun r61 _ H locs hw hP hD _ hS => ?_)
              obtain rfl := hw
              obtain ⟨hP, hD⟩ := pd_mk (bX11 a2 uq kq q_q ([(a0, .inr (9, [.int o61.2.1, .int o61.2.2.1, .int o61.2.2.2, .ref a2, g6, g7, g8, g9, g10, g11, g12, g13, g14, g15, g16, g17, g18, g19, g20, g21, g22, g23, g24, g25, g26, g27, g28, g29, g30, g31]))])) hP hD
              obtain rfl := Option.some.inj h
              obtain ⟨hP9, hD9⟩ := pd_sub ((a0, .inr (9, [.int o61.2.1, .int o61.2.2.1, .int o61.2.2.2, .ref a2, g6, g7, g8, g9, g10, g11, g12, g13, g14, g15, g16, g17, g18, g19, g20, g21, g22, g23, g24, g25, g26, g27, g28, g29, g30, g31])) :: bX11 a2 uq kq q_q []) [15, 0, 1, 2, 3, 4, 5, 6, 7, 8, 9, 10, 11, 12, 13, 14] hP hD (by decide) rfl
              have hK9 := hK.sub (tys' := []) [] rfl
              rw [hQQ]
              exact W.iret (v := o61.1) hx hb hr (fun t ht hW => ⟨⟨o61.1, (), rfl, rfl, by rw [ht]; exact hP9, va_K.moved hW.alike hK9, hD9⟩, hS.F ht⟩) hS.2.2 (zat zrX12_darkAt_0_ok 34 rfl)
          · have h := (if_pos c43).symm.trans h
            refine lv_goto (tgt := 68) hx hb (zat zrX12_darkAt_0_ok 25 rfl) (by decide) ?_
            exact J68 v25_l3 H _ ls h  hP hD hS (lv_sub hl [1, 0, 2, 3] rfl)
    exact L25 FU (0 : Int32) (0 : Int32) H _ ls h  hP hD hS (lv_sub hl [0, 1, 3, 4] rfl)
  · have h := (if_neg c11).symm.trans h
    refine lv_aload_n hx hb (zat zrX12_darkAt_0_ok 8 rfl) rfl (lv_at hl 1 rfl) ?_
    refine lv_iload_n hx hb (zat zrX12_darkAt_0_ok 9 rfl) rfl (lv_at hl 0 rfl) ?_
    obtain ⟨o16, eo16⟩ : ∃ o, o = f_X12_refused o6 ((0 : Int32), m_t.2) := ⟨_, rfl⟩
    have h := nm_of h o16 eo16
    refine ck_i (wc := ([(a0, .inr (9, [.int 0, .int m_t.2.1, .int m_t.2.2, .ref a2, g6, g7, g8, g9, g10, g11, g12, g13, g14, g15, g16, g17, g18, g19, g20, g21, g22, g23, g24, g25, g26, g27, g28, g29, g30, g31]))])) (wr := (bX11 a2 uq kq q_q [])) hP hD hK hS hA [0] [1, 2, 3, 4, 5, 6, 7, 8, 9, 10, 11, 12, 13, 14, 15] rfl rfl (by decide) (by decide) (by decide) (fun hPc hDc => (va_runV (As := [.int o6]) (rest := []) ⟨hx, hb, hml, hown, hts⟩ (kfX12_refused l dC dI a0 o6 ((0 : Int32), m_t.2) (.ref a2) (g6) (g7) (g8) (g9) (g10) (g11) (g12) (g13) (g14) (g15) (g16) (g17) (g18) (g19) (g20) (g21) (g22) (g23) (g24) (g25) (g26) (g27) (g28) (g29) (g30) (g31) H.size o16 eo16.symm) (cwV 1 hts gfX12_darkAt_2 rfl rfl rfl (by decide +kernel) ⟨(Nat.le_of_ble_eq_true rfl), (Nat.le_of_ble_eq_true rfl)⟩) (PV hPc (hK.sub (tys' := ([])) [] rfl) hDc hN 0 rfl rfl) rfl rfl hl.1 rfl (lv_room (Nat.le_of_ble_eq_true rfl)) (zat zrX12_darkAt_0_ok 10 rfl) ⟨(Nat.le_of_ble_eq_true rfl), (Nat.le_of_ble_eq_true rfl)⟩)) (fun r16 _ H locs hw hP hD _ hS => ?_)
    obtain rfl := hw
    obtain ⟨hP, hD⟩ := pd_mk (bX11 a2 uq kq q_q ([(a0, .inr (9, [.int o16.1, .int o16.2.1, .int o16.2.2, .ref a2, g6, g7, g8, g9, g10, g11, g12, g13, g14, g15, g16, g17, g18, g19, g20, g21, g22, g23, g24, g25, g26, g27, g28, g29, g30, g31]))])) hP hD
    obtain rfl := Option.some.inj h
    obtain ⟨hP9, hD9⟩ := pd_sub ((a0, .inr (9, [.int o16.1, .int o16.2.1, .int o16.2.2, .ref a2, g6, g7, g8, g9, g10, g11, g12, g13, g14, g15, g16, g17, g18, g19, g20, g21, g22, g23, g24, g25, g26, g27, g28, g29, g30, g31])) :: bX11 a2 uq kq q_q []) [15, 0, 1, 2, 3, 4, 5, 6, 7, 8, 9, 10, 11, 12, 13, 14] hP hD (by decide) rfl
    have hK9 := hK.sub (tys' := []) [] rfl
    rw [hQQ]
    exact W.iret (v := (-1 : Int32)) hx hb hr (fun t ht hW => ⟨⟨(-1 : Int32), (), rfl, rfl, by rw [ht]; exact hP9, va_K.moved hW.alike hK9, hD9⟩, hS.F ht⟩) hS.2.2 (zat zrX12_darkAt_0_ok 11 rfl)
noncomputable def zrX12_darkSpots_0 : List ZR := zc 0 true (.aload_n 0) 1 (zc 1 true (.iconst 0) 1 (zc 2 true (.putfield 36) 3 (zc 5 true (.aload_n 0) 1 (zc 6 true (.invokevirtual 417) 3 (zc 9 true (.istore_n 1) 1 (zc 10 true (.iload_n 1) 1 (zc 11 true (.ifCond .le 9) 3 (zc 14 true (.aload_n 0) 1 (zc 15 true (.iload_n 1) 1 (zc 16 true (.invokevirtual 42) 3 (zc 19 true (.ireturn) 1 (zc 20 true (.iconst 0) 1 (zc 21 true (.istore_n 2) 1 (zc 22 true (.iconst 0) 1 (zc 23 true (.istore_n 3) 1 (zc 24 true (.iload_n 3) 1 (zc 25 true (.aload_n 0) 1 (zc 26 true (.getfield 299) 3 (zc 29 true (.invokevirtual 374) 3 (zc 32 true (.if_icmp .ge 31) 3 (zc 35 true (.iload_n 2) 1 (zc 36 true (.aload_n 0) 1 (zc 37 true (.iload_n 3) 1 (zc 38 true (.invokevirtual 420) 3 (zc 41 true (.ifCond .eq 13) 3 (zc 44 true (.iconst 1) 1 (zc 45 true (.aload_n 0) 1 (zc 46 true (.iload_n 3) 1 (zc 47 true (.invokevirtual 307) 3 (zc 50 true (.ishl) 1 (zc 51 true (.goto 4) 3 (zc 54 true (.iconst 0) 1 (zc 55 true (.ior) 1 (zc 56 true (.istore_n 2) 1 (zc 57 true (.iinc 3 1) 3 (zc 60 true (.goto (-36)) 3 (zc 63 true (.aload_n 0) 1 (zc 64 true (.iload_n 2) 1 (zc 65 true (.invokevirtual 46) 3 (zc 68 true (.ireturn) 1 ([])))))))))))))))))))))))))))))))))))))))))
theorem zrX12_darkSpots_0_ok : zck 0 ((zby cX12_darkSpots).drop 0) zrX12_darkSpots_0 = true := by decide +kernel
def vfX12_darkSpots : List Cond := List.cons (.code yX12_darkSpots cX12_darkSpots 4 (some .int)) (apW [.fieldLink RX12 36 "HookPierModel" "thrown" "I", .methodLink RX12 417 yX12_refusesDark, .instanceMethod yX12_refusesDark, .selects RX12 yX12_refusesDark yX12_refusesDark, .initialized RX12, .fieldLink RX12 299 "HookPierModel" "pier" "LHookPierModel$Pier;", .methodLink RX12 374 yX11_questions, .instanceMethod yX11_questions, .selects RX11 yX11_questions yX11_questions, .initialized RX11, .methodLink RX12 46 yX12_good, .instanceMethod yX12_good, .selects RX12 yX12_good yX12_good, .methodLink RX12 420 yX12_isDark, .instanceMethod yX12_isDark, .selects RX12 yX12_isDark yX12_isDark, .methodLink RX12 307 yX12_spotOf, .instanceMethod yX12_spotOf, .selects RX12 yX12_spotOf yX12_spotOf, .methodLink RX12 42 yX12_refused, .instanceMethod yX12_refused, .selects RX12 yX12_refused yX12_refused] (apW wsX120 (apW vfX12_refusesDark (apW vfX11_questions (apW vfX12_good (apW vfX12_isDark (apW vfX12_spotOf (vfX12_refused))))))))
theorem ifX12_darkSpots_X12 : ∀ w ∈ wsX120, w ∈ vfX12_darkSpots := fun _ h => (List.mem_cons_of_mem _ (List.mem_append_right _ (List.mem_append_left _ h)))
theorem qfX12_darkSpots : Good vfX12_darkSpots := gd_cons (by decide +kernel) (gd_app (gd_dec (by decide +kernel) : Good [.fieldLink RX12 36 "HookPierModel" "thrown" "I", .methodLink RX12 417 yX12_refusesDark, .instanceMethod yX12_refusesDark, .selects RX12 yX12_refusesDark yX12_refusesDark, .initialized RX12, .fieldLink RX12 299 "HookPierModel" "pier" "LHookPierModel$Pier;", .methodLink RX12 374 yX11_questions, .instanceMethod yX11_questions, .selects RX11 yX11_questions yX11_questions, .initialized RX11, .methodLink RX12 46 yX12_good, .instanceMethod yX12_good, .selects RX12 yX12_good yX12_good, .methodLink RX12 420 yX12_isDark, .instanceMethod yX12_isDark, .selects RX12 yX12_isDark yX12_isDark, .methodLink RX12 307 yX12_spotOf, .instanceMethod yX12_spotOf, .selects RX12 yX12_spotOf yX12_spotOf, .methodLink RX12 42 yX12_refused, .instanceMethod yX12_refused, .selects RX12 yX12_refused yX12_refused]) (gd_app qsX12 (gd_app qfX12_refusesDark (gd_app qfX11_questions (gd_app qfX12_good (gd_app qfX12_isDark (gd_app qfX12_spotOf qfX12_refused)))))))
theorem gfX12_darkSpots_0 : GoodIn vfX12_darkSpots (wsV RX12 417 RX12 yX12_refusesDark vfX12_refusesDark) := goodIn_app (goodIn_r [.methodLink RX12 417 yX12_refusesDark, .instanceMethod yX12_refusesDark, .selects RX12 yX12_refusesDark yX12_refusesDark, .initialized RX12] [2, 3, 4, 5] rfl (by decide +kernel)) (goodIn_m (fun _ h => (List.mem_cons_of_mem _ (List.mem_append_right _ (List.mem_append_right _ (List.mem_append_left _ h))))) qfX12_refusesDark)
theorem gfX12_darkSpots_1 : GoodIn vfX12_darkSpots (wsV RX12 374 RX11 yX11_questions vfX11_questions) := goodIn_app (goodIn_r [.methodLink RX12 374 yX11_questions, .instanceMethod yX11_questions, .selects RX11 yX11_questions yX11_questions, .initialized RX11] [7, 8, 9, 10] rfl (by decide +kernel)) (goodIn_m (fun _ h => (List.mem_cons_of_mem _ (List.mem_append_right _ (List.mem_append_right _ (List.mem_append_right _ (List.mem_append_left _ h)))))) qfX11_questions)
theorem gfX12_darkSpots_2 : GoodIn vfX12_darkSpots (wsV RX12 46 RX12 yX12_good vfX12_good) := goodIn_app (goodIn_r [.methodLink RX12 46 yX12_good, .instanceMethod yX12_good, .selects RX12 yX12_good yX12_good, .initialized RX12] [11, 12, 13, 5] rfl (by decide +kernel)) (goodIn_m (fun _ h => (List.mem_cons_of_mem _ (List.mem_append_right _ (List.mem_append_right _ (List.mem_append_right _ (List.mem_append_right _ (List.mem_append_left _ h))))))) qfX12_good)
theorem gfX12_darkSpots_3 : GoodIn vfX12_darkSpots (wsV RX12 420 RX12 yX12_isDark vfX12_isDark) := goodIn_app (goodIn_r [.methodLink RX12 420 yX12_isDark, .instanceMethod yX12_isDark, .selects RX12 yX12_isDark yX12_isDark, .initialized RX12] [14, 15, 16, 5] rfl (by decide +kernel)) (goodIn_m (fun _ h => (List.mem_cons_of_mem _ (List.mem_append_right _ (List.mem_append_right _ (List.mem_append_right _ (List.mem_append_right _ (List.mem_append_right _ (List.mem_append_left _ h)))))))) qfX12_isDark)
theorem gfX12_darkSpots_4 : GoodIn vfX12_darkSpots (wsV RX12 307 RX12 yX12_spotOf vfX12_spotOf) := goodIn_app (goodIn_r [.methodLink RX12 307 yX12_spotOf, .instanceMethod yX12_spotOf, .selects RX12 yX12_spotOf yX12_spotOf, .initialized RX12] [17, 18, 19, 5] rfl (by decide +kernel)) (goodIn_m (fun _ h => (List.mem_cons_of_mem _ (List.mem_append_right _ (List.mem_append_right _ (List.mem_append_right _ (List.mem_append_right _ (List.mem_append_right _ (List.mem_append_right _ (List.mem_append_left _ h))))))))) qfX12_spotOf)
theorem gfX12_darkSpots_5 : GoodIn vfX12_darkSpots (wsV RX12 42 RX12 yX12_refused vfX12_refused) := goodIn_app (goodIn_r [.methodLink RX12 42 yX12_refused, .instanceMethod yX12_refused, .selects RX12 yX12_refused yX12_refused, .initialized RX12] [20, 21, 22, 5] rfl (by decide +kernel)) (goodIn_m (fun _ h => (List.mem_cons_of_mem _ (List.mem_append_right _ (List.mem_append_right _ (List.mem_append_right _ (List.mem_append_right _ (List.mem_append_right _ (List.mem_append_right _ (List.mem_append_right _ h))))))))) qfX12_refused)
set_option maxHeartbeats 2000000 in
set_option maxRecDepth 100000 in
theorem kfX12_darkSpots (l : Launch) (dC : Nat → ClassId) (dI : Nat → Nat → Nat) (a0 : Nat) (a1 : Nat) (uq : Nat → Nat) (kq : Nat → ClassId) (m_t : TX12_t) (g5 : Value) (g6 : Value) (g7 : Value) (g8 : Value) (g9 : Value) (g10 : Value) (g11 : Value) (g12 : Value) (g13 : Value) (g14 : Value) (g15 : Value) (g16 : Value) (g17 : Value) (g18 : Value) (g19 : Value) (g20 : Value) (g21 : Value) (g22 : Value) (g23 : Value) (g24 : Value) (g25 : Value) (g26 : Value) (g27 : Value) (g28 : Value) (g29 : Value) (g30 : Value) (q_q : TX11_q) (sz : Nat) (out : (Int32 × TX12_t)) (h : f_X12_darkSpots m_t q_q = some out) : KCi l yX12_darkSpots vfX12_darkSpots ({ frames := 4, cells := 0, slots := 0, locals := 92 }) (dC, dI) [.ref a0] sz ((a0, .inr (9, [.int m_t.1, .int m_t.2.1, .int m_t.2.2, .ref a1, g5, g6, g7, g8, g9, g10, g11, g12, g13, g14, g15, g16, g17, g18, g19, g20, g21, g22, g23, g24, g25, g26, g27, g28, g29, g30])) :: bX11 a1 uq kq q_q []) (tX11 kq ([])) (fun (r : Int32) _ => r = out.1) ((a0, .inr (9, [.int out.2.1, .int out.2.2.1, .int out.2.2.2, .ref a1, g5, g6, g7, g8, g9, g10, g11, g12, g13, g14, g15, g16, g17, g18, g19, g20, g21, g22, g23, g24, g25, g26, g27, g28, g29, g30])) :: bX11 a1 uq kq q_q []) 0 0 := by
  refine Met.ofW (cc := cX12_darkSpots) (maxL := 4) (ret := (some .int)) (by decide) rfl ?_
  intro p e s m args below meth c s₁ B0 hml hv
  obtain ⟨rfl, hsz, hP, hK, hD0, hN⟩ := hv
  have hx := B0.exec
  have hb := B0.bytes
  have hr := B0.returns
  have hts := atoms_spec (ws := vfX12_darkSpots) B0.pre
  have hown : s.vm.findClass RX12 = some m.cls := findClass_of_methodNamed B0.named
  have hlocks := B0.notSynchronized
  subst hsz
  have hD := hD0.self (sz := s.heap.size)
  generalize hAe : va_A ((a0, .inr (9, [.int m_t.1, .int m_t.2.1, .int m_t.2.2, .ref a1, g5, g6, g7, g8, g9, g10, g11, g12, g13, g14, g15, g16, g17, g18, g19, g20, g21, g22, g23, g24, g25, g26, g27, g28, g29, g30])) :: bX11 a1 uq kq q_q []) s.heap.size = A at hD ⊢
  have hA : ∀ q : Nat, s.heap.size ≤ q → A q := fun q h => by rw [← hAe]; exact Or.inr h
  have hS : va_S A s.heap s.heap [] := va_S.rf
  have hP : va_P (dC, dI) vwCl ((a0, .inr (9, [.int m_t.1, .int m_t.2.1, .int m_t.2.2, .ref a1, g5, g6, g7, g8, g9, g10, g11, g12, g13, g14, g15, g16, g17, g18, g19, g20, g21, g22, g23, g24, g25, g26, g27, g28, g29, g30])) :: bX11 a1 uq kq q_q []) s.heap := hP
  have hl := lv_entry ([.ref a0]) (n := 4) (Nat.le_of_ble_eq_true rfl)
  rw [lg_entry_eq]
  generalize (lg_sl ([.ref a0]) ++ List.replicate (4 - (lg_sl ([.ref a0])).length) Slot.unset).toArray = ls at hl ⊢
  have hl : lv_has ls 4 [(0, .ref a0)] := hl
  refine W_q (fun QQ hQQ => ?_)
  rw [f_X12_darkSpots] at h
  refine lv_aload_n hx hb (zat zrX12_darkSpots_0_ok 0 rfl) rfl (lv_at hl 0 rfl) ?_
  refine lv_iconst (v := 0) hx hb (zat zrX12_darkSpots_0_ok 1 rfl) (by decide) ?_
  refine va_put (D := (dC, dI)) (ci := 9) (v := .int 0) (ty := .int) (C := RX12) (T := TX12) (N := 30) hx hb hts ifX12_darkSpots_X12 tyX12 tyX12_ok nmX12 hown hK hP hD hS 0 rfl rfl 0 (by decide) (hts (.fieldLink RX12 36 "HookPierModel" "thrown" "I") (List.mem_of_getElem? (i := 1) rfl)) (fun _ h9 => h9) rfl (by decide +kernel) rfl rfl (Nat.le_of_ble_eq_true rfl) (zat zrX12_darkSpots_0_ok 2 rfl) (fun H locs hP hD hS => ?_)
  obtain ⟨hP, hD⟩ := pd_mk ((a0, .inr (9, [.int 0, .int m_t.2.1, .int m_t.2.2, .ref a1, g5, g6, g7, g8, g9, g10, g11, g12, g13, g14, g15, g16, g17, g18, g19, g20, g21, g22, g23, g24, g25, g26, g27, g28, g29, g30])) :: bX11 a1 uq kq q_q []) hP hD
  refine lv_aload_n hx hb (zat zrX12_darkSpots_0_ok 3 rfl) rfl (lv_at hl 0 rfl) ?_
  obtain ⟨o6, eo6⟩ : ∃ o, o = f_X12_refusesDark q_q := ⟨_, rfl⟩
  have h := nm_of h o6 eo6
  refine ck_i (wc := ((a0, .inr (9, [.int 0, .int m_t.2.1, .int m_t.2.2, .ref a1, g5, g6, g7, g8, g9, g10, g11, g12, g13, g14, g15, g16, g17, g18, g19, g20, g21, g22, g23, g24, g25, g26, g27, g28, g29, g30])) :: bX11 a1 uq kq q_q [])) (wr := []) hP hD hK hS hA [0, 1, 2, 3, 4, 5, 6, 7, 8, 9, 10, 11, 12, 13, 14, 15] [] rfl rfl (by decide) (by decide) (by decide) (fun hPc hDc => (va_runV (As := []) (rest := []) ⟨hx, hb, hml, hown, hts⟩ (kfX12_refusesDark l dC dI a0 a1 uq kq (.int 0) (.int m_t.2.1) (.int m_t.2.2) (g5) (g6) (g7) (g8) (g9) (g10) (g11) (g12) (g13) (g14) (g15) (g16) (g17) (g18) (g19) (g20) (g21) (g22) (g23) (g24) (g25) (g26) (g27) (g28) (g29) (g30) q_q H.size o6 eo6.symm) (cwV 0 hts gfX12_darkSpots_0 rfl rfl rfl (by decide +kernel) ⟨(Nat.le_of_ble_eq_true rfl), (Nat.le_of_ble_eq_true rfl)⟩) (PV hPc (hK.sub (tys' := (tX11 kq ([]))) [0, 1, 2, 3, 4, 5, 6, 7, 8, 9, 10, 11, 12, 13] rfl) hDc hN 0 rfl rfl) rfl rfl hl.1 rfl (lv_room (Nat.le_of_ble_eq_true rfl)) (zat zrX12_darkSpots_0_ok 4 rfl) ⟨(Nat.le_of_ble_eq_true rfl), (Nat.le_of_ble_eq_true rfl)⟩)) (fun r6 _ H locs hw hP hD _ hS => ?_)
  obtain rfl := hw.symm
  obtain ⟨hP, hD⟩ := pd_mk ((a0, .inr (9, [.int 0, .int m_t.2.1, .int m_t.2.2, .ref a1, g5, g6, g7, g8, g9, g10, g11, g12, g13, g14, g15, g16, g17, g18, g19, g20, g21, g22, g23, g24, g25, g26, g27, g28, g29, g30])) :: bX11 a1 uq kq q_q []) hP hD
  refine lv_istore_n (lv' := [(1, .int o6), (0, .ref a0)]) hx hb (zat zrX12_darkSpots_0_ok 5 rfl) rfl hl (by decide) rfl (fun ls hl => ?_)
  refine lv_iload_n hx hb (zat zrX12_darkSpots_0_ok 6 rfl) rfl (lv_at hl 0 rfl) ?_
  refine lv_if_le (tgt := 20) hx hb (zat zrX12_darkSpots_0_ok 7 rfl) (by decide) (fun c11 => ?_) (fun c11 => ?_)
  · have h := (if_pos c11).symm.trans h
    refine lv_iconst (v := 0) hx hb (zat zrX12_darkSpots_0_ok 12 rfl) (by decide) ?_
    refine lv_istore_n (lv' := [(2, .int 0), (1, .int o6), (0, .ref a0)]) hx hb (zat zrX12_darkSpots_0_ok 13 rfl) rfl hl (by decide) rfl (fun ls hl => ?_)
    refine lv_iconst (v := 0) hx hb (zat zrX12_darkSpots_0_ok 14 rfl) (by decide) ?_
    refine lv_istore_n (lv' := [(3, .int 0), (2, .int 0), (1, .int o6), (0, .ref a0)]) hx hb (zat zrX12_darkSpots_0_ok 15 rfl) rfl hl (by decide) rfl (fun ls hl => ?_)
    have L24 : ∀ (n24 : Nat) (v24_l3 : Int32) (v24_l2 : Int32) (H : Heap) (locs : List Loc) (ls : Array Slot), f_X12_darkSpots_L24 m_t q_q n24 v24_l3 v24_l2 = some out → va_P (dC, dI) vwCl ((a0, .inr (9, [.int 0, .int m_t.2.1, .int m_t.2.2, .ref a1, g5, g6, g7, g8, g9, g10, g11, g12, g13, g14, g15, g16, g17, g18, g19, g20, g21, g22, g23, g24, g25, g26, g27, g28, g29, g30])) :: bX11 a1 uq kq q_q []) H → va_D A ((a0, .inr (9, [.int 0, .int m_t.2.1, .int m_t.2.2, .ref a1, g5, g6, g7, g8, g9, g10, g11, g12, g13, g14, g15, g16, g17, g18, g19, g20, g21, g22, g23, g24, g25, g26, g27, g28, g29, g30])) :: bX11 a1 uq kq q_q []) → va_S A s.heap H locs → lv_has ls 4 [(3, .int v24_l3), (2, .int v24_l2), (0, .ref a0)] → W p l e (headSpec vfX12_darkSpots { frames := 4, cells := 0, slots := 0, locals := 92 }).room s m ([.ref a0]).toArray below meth c H locs 0 0 QQ (F0 m 24 ls []) := by
      intro n24
      induction n24 with
      | zero =>
        intro v24_l3 v24_l2 H locs ls h  _ _ _ _
        rw [f_X12_darkSpots_L24] at h
        cases h
      | succ n24 ih24 =>
        intro v24_l3 v24_l2 H locs ls h  hP hD hS hl
        rw [f_X12_darkSpots_L24] at h
        refine lv_iload_n hx hb (zat zrX12_darkSpots_0_ok 16 rfl) rfl (lv_at hl 0 rfl) ?_
        refine lv_aload_n hx hb (zat zrX12_darkSpots_0_ok 17 rfl) rfl (lv_at hl 2 rfl) ?_
        refine va_get (D := (dC, dI)) (ci := 9) (v := .ref a1) (C := RX12) (T := TX12) (N := 30) hx hb hts ifX12_darkSpots_X12 hown hK hP 0 rfl rfl 3 (by decide) (hts (.fieldLink RX12 299 "HookPierModel" "pier" "LHookPierModel$Pier;") (List.mem_of_getElem? (i := 6) rfl)) (fun _ h9 => h9) rfl (zat zrX12_darkSpots_0_ok 18 rfl) ?_
        obtain ⟨o29, eo29⟩ : ∃ o, o = f_X11_questions q_q := ⟨_, rfl⟩
        have h := nm_of h o29 eo29
        refine ck_i (wc := (bX11 a1 uq kq q_q [])) (wr := ([(a0, .inr (9, [.int 0, .int m_t.2.1, .int m_t.2.2, .ref a1, g5, g6, g7, g8, g9, g10, g11, g12, g13, g14, g15, g16, g17, g18, g19, g20, g21, g22, g23, g24, g25, g26, g27, g28, g29, g30]))])) hP hD hK hS hA [1, 2, 3, 4, 5, 6, 7, 8, 9, 10, 11, 12, 13, 14, 15] [0] rfl rfl (by decide) (by decide) (by decide) (fun hPc hDc => (va_runV (As := []) (rest := [.int v24_l3]) ⟨hx, hb, hml, hown, hts⟩ (kfX11_questions l dC dI a1 uq kq q_q H.size o29 eo29.symm) (cwV 0 hts gfX12_darkSpots_1 rfl rfl rfl (by decide +kernel) ⟨(Nat.le_of_ble_eq_true rfl), (Nat.le_of_ble_eq_true rfl)⟩) (PV hPc (hK.sub (tys' := (tX11 kq ([]))) [0, 1, 2, 3, 4, 5, 6, 7, 8, 9, 10, 11, 12, 13] rfl) hDc hN 0 rfl rfl) rfl rfl hl.1 rfl (lv_room (Nat.le_of_ble_eq_true rfl)) (zat zrX12_darkSpots_0_ok 19 rfl) ⟨(Nat.le_of_ble_eq_true rfl), (Nat.le_of_ble_eq_true rfl)⟩)) (fun r29 _ H locs hw hP hD _ hS => ?_)
        obtain rfl := hw.symm
        obtain ⟨hP, hD⟩ := pd_mk ((a0, .inr (9, [.int 0, .int m_t.2.1, .int m_t.2.2, .ref a1, g5, g6, g7, g8, g9, g10, g11, g12, g13, g14, g15, g16, g17, g18, g19, g20, g21, g22, g23, g24, g25, g26, g27, g28, g29, g30])) :: bX11 a1 uq kq q_q []) hP hD
        refine lv_icmp_ge (tgt := 63) hx hb (zat zrX12_darkSpots_0_ok 20 rfl) (by decide) (fun c32 => ?_) (fun c32 => ?_)
        · have h := (if_pos c32).symm.trans h
          refine lv_aload_n hx hb (zat zrX12_darkSpots_0_ok 37 rfl) rfl (lv_at hl 2 rfl) ?_
          refine lv_iload_n hx hb (zat zrX12_darkSpots_0_ok 38 rfl) rfl (lv_at hl 1 rfl) ?_
          obtain ⟨o65, eo65⟩ : ∃ o, o = f_X12_good v24_l2 ((0 : Int32), m_t.2) := ⟨_, rfl⟩
          have h := nm_of h o65 eo65
          refine ck_i (wc := ([(a0, .inr (9, [.int 0, .int m_t.2.1, .int m_t.2.2, .ref a1, g5, g6, g7, g8, g9, g10, g11, g12, g13, g14, g15, g16, g17, g18, g19, g20, g21, g22, g23, g24, g25, g26, g27, g28, g29, g30]))])) (wr := (bX11 a1 uq kq q_q [])) hP hD hK hS hA [0] [1, 2, 3, 4, 5, 6, 7, 8, 9, 10, 11, 12, 13, 14, 15] rfl rfl (by decide) (by decide) (by decide) (fun hPc hDc => (va_runV (As := [.int v24_l2]) (rest := []) ⟨hx, hb, hml, hown, hts⟩ (kfX12_good l dC dI a0 v24_l2 ((0 : Int32), m_t.2) (.ref a1) (g5) (g6) (g7) (g8) (g9) (g10) (g11) (g12) (g13) (g14) (g15) (g16) (g17) (g18) (g19) (g20) (g21) (g22) (g23) (g24) (g25) (g26) (g27) (g28) (g29) (g30) H.size o65 eo65.symm) (cwV 1 hts gfX12_darkSpots_2 rfl rfl rfl (by decide +kernel) ⟨(Nat.le_of_ble_eq_true rfl), (Nat.le_of_ble_eq_true rfl)⟩) (PV hPc (hK.sub (tys' := ([])) [] rfl) hDc hN 0 rfl rfl) rfl rfl hl.1 rfl (lv_room (Nat.le_of_ble_eq_true rfl)) (zat zrX12_darkSpots_0_ok 39 rfl) ⟨(Nat.le_of_ble_eq_true rfl), (Nat.le_of_ble_eq_true rfl)⟩)) (fun r65 _ H locs hw hP hD _ hS => ?_)
          obtain rfl := hw
          obtain ⟨hP, hD⟩ := pd_mk (bX11 a1 uq kq q_q ([(a0, .inr (9, [.int o65.2.1, .int o65.2.2.1, .int o65.2.2.2, .ref a1, g5, g6, g7, g8, g9, g10, g11, g12, g13, g14, g15, g16, g17, g18, g19, g20, g21, g22, g23, g24, g25, g26, g27, g28, g29, g30]))])) hP hD
          obtain rfl := Option.some.inj h
          obtain ⟨hP9, hD9⟩ := pd_sub ((a0, .inr (9, [.int o65.2.1, .int o65.2.2.1, .int o65.2.2.2, .ref a1, g5, g6, g7, g8, g9, g10, g11, g12, g13, g14, g15, g16, g17, g18, g19, g20, g21, g22, g23, g24, g25, g26, g27, g28, g29, g30])) :: bX11 a1 uq kq q_q []) [15, 0, 1, 2, 3, 4, 5, 6, 7, 8, 9, 10, 11, 12, 13, 14] hP hD (by decide) rfl
          have hK9 := hK.sub (tys' := []) [] rfl
          rw [hQQ]
          exact W.iret (v := o65.1) hx hb hr (fun t ht hW => ⟨⟨o65.1, (), rfl, rfl, by rw [ht]; exact hP9, va_K.moved hW.alike hK9, hD9⟩, hS.F ht⟩) hS.2.2 (zat zrX12_darkSpots_0_ok 40 rfl)
        · have h := (if_neg c32).symm.trans h
          refine lv_iload_n hx hb (zat zrX12_darkSpots_0_ok 21 rfl) rfl (lv_at hl 1 rfl) ?_
          refine lv_aload_n hx hb (zat zrX12_darkSpots_0_ok 22 rfl) rfl (lv_at hl 2 rfl) ?_
          refine lv_iload_n hx hb (zat zrX12_darkSpots_0_ok 23 rfl) rfl (lv_at hl 0 rfl) ?_
          obtain ⟨o38, eo38, h⟩ := bd_of h
          refine ck_i (wc := ((a0, .inr (9, [.int 0, .int m_t.2.1, .int m_t.2.2, .ref a1, g5, g6, g7, g8, g9, g10, g11, g12, g13, g14, g15, g16, g17, g18, g19, g20, g21, g22, g23, g24, g25, g26, g27, g28, g29, g30])) :: bX11 a1 uq kq q_q [])) (wr := []) hP hD hK hS hA [0, 1, 2, 3, 4, 5, 6, 7, 8, 9, 10, 11, 12, 13, 14, 15] [] rfl rfl (by decide) (by decide) (by decide) (fun hPc hDc => (va_runV (As := [.int v24_l3]) (rest := [.int v24_l2]) ⟨hx, hb, hml, hown, hts⟩ (kfX12_isDark l dC dI a0 v24_l3 a1 uq kq (.int 0) (.int m_t.2.1) (.int m_t.2.2) (g5) (g6) (g7) (g8) (g9) (g10) (g11) (g12) (g13) (g14) (g15) (g16) (g17) (g18) (g19) (g20) (g21) (g22) (g23) (g24) (g25) (g26) (g27) (g28) (g29) (g30) q_q H.size o38 eo38) (cwV 1 hts gfX12_darkSpots_3 rfl rfl rfl (by decide +kernel) ⟨(Nat.le_of_ble_eq_true rfl), (Nat.le_of_ble_eq_true rfl)⟩) (PV hPc (hK.sub (tys' := (tX11 kq ([]))) [0, 1, 2, 3, 4, 5, 6, 7, 8, 9, 10, 11, 12, 13] rfl) hDc hN 0 rfl rfl) rfl rfl hl.1 rfl (lv_room (Nat.le_of_ble_eq_true rfl)) (zat zrX12_darkSpots_0_ok 24 rfl) ⟨(Nat.le_of_ble_eq_true rfl), (Nat.le_of_ble_eq_true rfl)⟩)) (fun r38 _ H locs hw hP hD _ hS => ?_)
          obtain ⟨hw, br38⟩ := hw
          obtain rfl := hw.symm
          obtain ⟨hP, hD⟩ := pd_mk ((a0, .inr (9, [.int 0, .int m_t.2.1, .int m_t.2.2, .ref a1, g5, g6, g7, g8, g9, g10, g11, g12, g13, g14, g15, g16, g17, g18, g19, g20, g21, g22, g23, g24, g25, g26, g27, g28, g29, g30])) :: bX11 a1 uq kq q_q []) hP hD
          have J55 : ∀ (v55_t1 : Int32) (H : Heap) (locs : List Loc) (ls : Array Slot), f_X12_darkSpots_J55 (f_X12_darkSpots_L24 m_t q_q n24) v24_l2 v24_l3 v55_t1 = some out → va_P (dC, dI) vwCl ((a0, .inr (9, [.int 0, .int m_t.2.1, .int m_t.2.2, .ref a1, g5, g6, g7, g8, g9, g10, g11, g12, g13, g14, g15, g16, g17, g18, g19, g20, g21, g22, g23, g24, g25, g26, g27, g28, g29, g30])) :: bX11 a1 uq kq q_q []) H → va_D A ((a0, .inr (9, [.int 0, .int m_t.2.1, .int m_t.2.2, .ref a1, g5, g6, g7, g8, g9, g10, g11, g12, g13, g14, g15, g16, g17, g18, g19, g20, g21, g22, g23, g24, g25, g26, g27, g28, g29, g30])) :: bX11 a1 uq kq q_q []) → va_S A s.heap H locs → lv_has ls 4 [(3, .int v24_l3), (0, .ref a0)] → W p l e (headSpec vfX12_darkSpots { frames := 4, cells := 0, slots := 0, locals := 92 }).room s m ([.ref a0]).toArray below meth c H locs 0 0 QQ (F0 m 55 ls [.int v55_t1, .int v24_l2]) := by
            intro v55_t1 H locs ls h  hP hD hS hl
            rw [f_X12_darkSpots_J55] at h
            refine lv_ior hx hb (zat zrX12_darkSpots_0_ok 33 rfl) ?_
            refine lv_istore_n (lv' := [(2, .int (v24_l2 ||| v55_t1)), (3, .int v24_l3), (0, .ref a0)]) hx hb (zat zrX12_darkSpots_0_ok 34 rfl) rfl hl (by decide) rfl (fun ls hl => ?_)
            refine lv_iinc (v := (v24_l3 + (1 : Int32))) (lv' := [(3, .int (v24_l3 + (1 : Int32))), (2, .int (v24_l2 ||| v55_t1)), (0, .ref a0)]) hx hb (zat zrX12_darkSpots_0_ok 35 rfl) hl (k := 1) rfl rfl (by decide) rfl (fun ls hl => ?_)
            refine lv_goto (tgt := 24) hx hb (zat zrX12_darkSpots_0_ok 36 rfl) (by decide) ?_
            exact ih24 (v24_l3 + (1 : Int32)) (v24_l2 ||| v55_t1) H _ ls h  hP hD hS (lv_sub hl [0, 1, 2] rfl)
          refine lv_if_eq (tgt := 54) hx hb (zat zrX12_darkSpots_0_ok 25 rfl) (by decide) (fun c41 => ?_) (fun c41 => ?_)
          · have h := (if_pos c41).symm.trans h
            refine lv_iconst (v := 0) hx hb (zat zrX12_darkSpots_0_ok 32 rfl) (by decide) ?_
            exact J55 (0 : Int32) H _ ls h  hP hD hS (lv_sub hl [0, 2] rfl)
          · have h := (if_neg c41).symm.trans h
            refine lv_iconst (v := 1) hx hb (zat zrX12_darkSpots_0_ok 26 rfl) (by decide) ?_
            refine lv_aload_n hx hb (zat zrX12_darkSpots_0_ok 27 rfl) rfl (lv_at hl 2 rfl) ?_
            refine lv_iload_n hx hb (zat zrX12_darkSpots_0_ok 28 rfl) rfl (lv_at hl 0 rfl) ?_
            obtain ⟨o47, eo47, h⟩ := bd_of h
            refine ck_i (wc := ((a0, .inr (9, [.int 0, .int m_t.2.1, .int m_t.2.2, .ref a1, g5, g6, g7, g8, g9, g10, g11, g12, g13, g14, g15, g16, g17, g18, g19, g20, g21, g22, g23, g24, g25, g26, g27, g28, g29, g30])) :: bX11 a1 uq kq q_q [])) (wr := []) hP hD hK hS hA [0, 1, 2, 3, 4, 5, 6, 7, 8, 9, 10, 11, 12, 13, 14, 15] [] rfl rfl (by decide) (by decide) (by decide) (fun hPc hDc => (va_runV (As := [.int v24_l3]) (rest := [.int 1, .int v24_l2]) ⟨hx, hb, hml, hown, hts⟩ (kfX12_spotOf l dC dI a0 v24_l3 a1 uq kq (.int 0) (.int m_t.2.1) (.int m_t.2.2) (g5) (g6) (g7) (g8) (g9) (g10) (g11) (g12) (g13) (g14) (g15) (g16) (g17) (g18) (g19) (g20) (g21) (g22) (g23) (g24) (g25) (g26) (g27) (g28) (g29) (g30) q_q H.size o47 eo47) (cwV 1 hts gfX12_darkSpots_4 rfl rfl rfl (by decide +kernel) ⟨(Nat.le_of_ble_eq_true rfl), (Nat.le_of_ble_eq_true rfl)⟩) (PV hPc (hK.sub (tys' := (tX11 kq ([]))) [0, 1, 2, 3, 4, 5, 6, 7, 8, 9, 10, 11, 12, 13] rfl) hDc hN 0 rfl rfl) rfl rfl hl.1 rfl (lv_room (Nat.le_of_ble_eq_true rfl)) (zat zrX12_darkSpots_0_ok 29 rfl) ⟨(Nat.le_of_ble_eq_true rfl), (Nat.le_of_ble_eq_true rfl)⟩)) (fun r47 _ H locs hw hP hD _ hS => ?_)
            obtain rfl := hw.symm
            obtain ⟨hP, hD⟩ := pd_mk ((a0, .inr (9, [.int 0, .int m_t.2.1, .int m_t.2.2, .ref a1, g5, g6, g7, g8, g9, g10, g11, g12, g13, g14, g15, g16, g17, g18, g19, g20, g21, g22, g23, g24, g25, g26, g27, g28, g29, g30])) :: bX11 a1 uq kq q_q []) hP hD
            refine lv_ishl hx hb (zat zrX12_darkSpots_0_ok 30 rfl) ?_
            refine lv_goto (tgt := 55) hx hb (zat zrX12_darkSpots_0_ok 31 rfl) (by decide) ?_
            exact J55 ((1 : Int32) <<< (o47 &&& 31)) H _ ls h  hP hD hS (lv_sub hl [0, 2] rfl)
    exact L24 FU (0 : Int32) (0 : Int32) H _ ls h  hP hD hS (lv_sub hl [0, 1, 3] rfl)
  · have h := (if_neg c11).symm.trans h
    refine lv_aload_n hx hb (zat zrX12_darkSpots_0_ok 8 rfl) rfl (lv_at hl 1 rfl) ?_
    refine lv_iload_n hx hb (zat zrX12_darkSpots_0_ok 9 rfl) rfl (lv_at hl 0 rfl) ?_
    obtain ⟨o16, eo16⟩ : ∃ o, o = f_X12_refused o6 ((0 : Int32), m_t.2) := ⟨_, rfl⟩
    have h := nm_of h o16 eo16
    refine ck_i (wc := ([(a0, .inr (9, [.int 0, .int m_t.2.1, .int m_t.2.2, .ref a1, g5, g6, g7, g8, g9, g10, g11, g12, g13, g14, g15, g16, g17, g18, g19, g20, g21, g22, g23, g24, g25, g26, g27, g28, g29, g30]))])) (wr := (bX11 a1 uq kq q_q [])) hP hD hK hS hA [0] [1, 2, 3, 4, 5, 6, 7, 8, 9, 10, 11, 12, 13, 14, 15] rfl rfl (by decide) (by decide) (by decide) (fun hPc hDc => (va_runV (As := [.int o6]) (rest := []) ⟨hx, hb, hml, hown, hts⟩ (kfX12_refused l dC dI a0 o6 ((0 : Int32), m_t.2) (.ref a1) (g5) (g6) (g7) (g8) (g9) (g10) (g11) (g12) (g13) (g14) (g15) (g16) (g17) (g18) (g19) (g20) (g21) (g22) (g23) (g24) (g25) (g26) (g27) (g28) (g29) (g30) H.size o16 eo16.symm) (cwV 1 hts gfX12_darkSpots_5 rfl rfl rfl (by decide +kernel) ⟨(Nat.le_of_ble_eq_true rfl), (Nat.le_of_ble_eq_true rfl)⟩) (PV hPc (hK.sub (tys' := ([])) [] rfl) hDc hN 0 rfl rfl) rfl rfl hl.1 rfl (lv_room (Nat.le_of_ble_eq_true rfl)) (zat zrX12_darkSpots_0_ok 10 rfl) ⟨(Nat.le_of_ble_eq_true rfl), (Nat.le_of_ble_eq_true rfl)⟩)) (fun r16 _ H locs hw hP hD _ hS => ?_)
    obtain rfl := hw
    obtain ⟨hP, hD⟩ := pd_mk (bX11 a1 uq kq q_q ([(a0, .inr (9, [.int o16.1, .int o16.2.1, .int o16.2.2, .ref a1, g5, g6, g7, g8, g9, g10, g11, g12, g13, g14, g15, g16, g17, g18, g19, g20, g21, g22, g23, g24, g25, g26, g27, g28, g29, g30]))])) hP hD
    obtain rfl := Option.some.inj h
    obtain ⟨hP9, hD9⟩ := pd_sub ((a0, .inr (9, [.int o16.1, .int o16.2.1, .int o16.2.2, .ref a1, g5, g6, g7, g8, g9, g10, g11, g12, g13, g14, g15, g16, g17, g18, g19, g20, g21, g22, g23, g24, g25, g26, g27, g28, g29, g30])) :: bX11 a1 uq kq q_q []) [15, 0, 1, 2, 3, 4, 5, 6, 7, 8, 9, 10, 11, 12, 13, 14] hP hD (by decide) rfl
    have hK9 := hK.sub (tys' := []) [] rfl
    rw [hQQ]
    exact W.iret (v := (-1 : Int32)) hx hb hr (fun t ht hW => ⟨⟨(-1 : Int32), (), rfl, rfl, by rw [ht]; exact hP9, va_K.moved hW.alike hK9, hD9⟩, hS.F ht⟩) hS.2.2 (zat zrX12_darkSpots_0_ok 11 rfl)
