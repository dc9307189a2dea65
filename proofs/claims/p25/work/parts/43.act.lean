noncomputable def zrX12_day_0 : List ZR := zc 0 true (.aload_n 0) 1 (zc 1 true (.iconst 0) 1 (zc 2 true (.putfield 36) 3 (zc 5 true (.aload_n 0) 1 (zc 6 true (.getfield 299) 3 (zc 9 true (.ifnonnull 9) 3 (zc 12 false (.nop) 6 (zc 18 true (.aload_n 0) 1 (zc 19 true (.getfield 17) 3 (zc 22 true (.bipush 23) 2 (zc 24 true (.iaload) 1 (zc 25 true (.sipush 999) 3 (zc 28 true (.if_icmp .ne 9) 3 (zc 31 true (.aload_n 0) 1 (zc 32 true (.iconst 3) 1 (zc 33 true (.invokevirtual 42) 3 (zc 36 true (.ireturn) 1 (zc 37 true (.aload_n 0) 1 (zc 38 true (.invokevirtual 501) 3 (zc 41 true (.aload_n 0) 1 (zc 42 true (.aload_n 0) 1 (zc 43 true (.aload_n 0) 1 (zc 44 true (.getfield 17) 3 (zc 47 true (.invokevirtual 485) 3 (zc 50 true (.invokevirtual 46) 3 (zc 53 true (.ireturn) 1 ([]))))))))))))))))))))))))))
theorem zrX12_day_0_ok : zck 0 ((zby cX12_day).drop 0) zrX12_day_0 = true := by decide +kernel
def vfX12_day : List Cond := List.cons (.code yX12_day cX12_day 1 (some .int)) (apW [.fieldLink RX12 36 "HookPierModel" "thrown" "I", .fieldLink RX12 299 "HookPierModel" "pier" "LHookPierModel$Pier;", .fieldLink RX12 17 "HookPierModel" "v" "[I", .methodLink RX12 501 yX12_remembers, .instanceMethod yX12_remembers, .selects RX12 yX12_remembers yX12_remembers, .initialized RX12, .methodLink RX12 485 yX12_goesBy, .instanceMethod yX12_goesBy, .selects RX12 yX12_goesBy yX12_goesBy, .methodLink RX12 46 yX12_good, .instanceMethod yX12_good, .selects RX12 yX12_good yX12_good, .methodLink RX12 42 yX12_refused, .instanceMethod yX12_refused, .selects RX12 yX12_refused yX12_refused] (apW wsX120 (apW vfX12_remembers (apW vfX12_goesBy (apW vfX12_good (vfX12_refused))))))
theorem ifX12_day_X12 : ∀ w ∈ wsX120, w ∈ vfX12_day := fun _ h => (List.mem_cons_of_mem _ (List.mem_append_right _ (List.mem_append_left _ h)))
theorem qfX12_day : Good vfX12_day := gd_cons (by decide +kernel) (gd_app (gd_dec (by decide +kernel) : Good [.fieldLink RX12 36 "HookPierModel" "thrown" "I", .fieldLink RX12 299 "HookPierModel" "pier" "LHookPierModel$Pier;", .fieldLink RX12 17 "HookPierModel" "v" "[I", .methodLink RX12 501 yX12_remembers, .instanceMethod yX12_remembers, .selects RX12 yX12_remembers yX12_remembers, .initialized RX12, .methodLink RX12 485 yX12_goesBy, .instanceMethod yX12_goesBy, .selects RX12 yX12_goesBy yX12_goesBy, .methodLink RX12 46 yX12_good, .instanceMethod yX12_good, .selects RX12 yX12_good yX12_good, .methodLink RX12 42 yX12_refused, .instanceMethod yX12_refused, .selects RX12 yX12_refused yX12_refused]) (gd_app qsX12 (gd_app qfX12_remembers (gd_app qfX12_goesBy (gd_app qfX12_good qfX12_refused)))))
theorem gfX12_day_0 : GoodIn vfX12_day (wsV RX12 501 RX12 yX12_remembers vfX12_remembers) := goodIn_app (goodIn_r [.methodLink RX12 501 yX12_remembers, .instanceMethod yX12_remembers, .selects RX12 yX12_remembers yX12_remembers, .initialized RX12] [4, 5, 6, 7] rfl (by decide +kernel)) (goodIn_m (fun _ h => (List.mem_cons_of_mem _ (List.mem_append_right _ (List.mem_append_right _ (List.mem_append_left _ h))))) qfX12_remembers)
theorem gfX12_day_1 : GoodIn vfX12_day (wsV RX12 485 RX12 yX12_goesBy vfX12_goesBy) := goodIn_app (goodIn_r [.methodLink RX12 485 yX12_goesBy, .instanceMethod yX12_goesBy, .selects RX12 yX12_goesBy yX12_goesBy, .initialized RX12] [8, 9, 10, 7] rfl (by decide +kernel)) (goodIn_m (fun _ h => (List.mem_cons_of_mem _ (List.mem_append_right _ (List.mem_append_right _ (List.mem_append_right _ (List.mem_append_left _ h)))))) qfX12_goesBy)
theorem gfX12_day_2 : GoodIn vfX12_day (wsV RX12 46 RX12 yX12_good vfX12_good) := goodIn_app (goodIn_r [.methodLink RX12 46 yX12_good, .instanceMethod yX12_good, .selects RX12 yX12_good yX12_good, .initialized RX12] [11, 12, 13, 7] rfl (by decide +kernel)) (goodIn_m (fun _ h => (List.mem_cons_of_mem _ (List.mem_append_right _ (List.mem_append_right _ (List.mem_append_right _ (List.mem_append_right _ (List.mem_append_left _ h))))))) qfX12_good)
theorem gfX12_day_3 : GoodIn vfX12_day (wsV RX12 42 RX12 yX12_refused vfX12_refused) := goodIn_app (goodIn_r [.methodLink RX12 42 yX12_refused, .instanceMethod yX12_refused, .selects RX12 yX12_refused yX12_refused, .initialized RX12] [14, 15, 16, 7] rfl (by decide +kernel)) (goodIn_m (fun _ h => (List.mem_cons_of_mem _ (List.mem_append_right _ (List.mem_append_right _ (List.mem_append_right _ (List.mem_append_right _ (List.mem_append_right _ h))))))) qfX12_refused)
set_option maxHeartbeats 2000000 in
set_option maxRecDepth 100000 in
theorem kfX12_day (l : Launch) (dC : Nat → ClassId) (dI : Nat → Nat → Nat) (a0 : Nat) (a1 : Nat) (a2 : Nat) (a3 : Nat) (a4 : Nat) (uq : Nat → Nat) (kq : Nat → ClassId) (m_t : TX12_t) (m_v : TX12_v) (m_h : TX12_h) (m_c : TX12_c) (g11 : Value) (g12 : Value) (g13 : Value) (g14 : Value) (g15 : Value) (g16 : Value) (g17 : Value) (g18 : Value) (g19 : Value) (g20 : Value) (g21 : Value) (g22 : Value) (g23 : Value) (g24 : Value) (g25 : Value) (g26 : Value) (g27 : Value) (g28 : Value) (q_q : TX11_q) (cB30 : ClassId) (cB31 : ClassId) (cB32 : ClassId) (sz : Nat) (out : (Int32 × TX12_t × TX12_v × TX12_h × TX12_c)) (h : f_X12_day m_t m_v m_h m_c q_q = some out) : KCi l yX12_day vfX12_day ({ frames := 6, cells := 0, slots := 0, locals := 140 }) (dC, dI) [.ref a0] sz ((a0, .inr (9, [.int m_t.1, .int m_t.2.1, .int m_t.2.2, .ref a1, g11, g12, g13, g14, g15, g16, g17, g18, g19, g20, g21, .ref a2, g22, .ref a3, .ref a4, .int m_h.2.2.1, .int m_h.2.2.2, g23, g24, g25, g26, g27, g28, .int m_c.1, .int m_c.2.1, .int m_c.2.2])) :: bX11 a1 uq kq q_q ([(a2, .inl (cB30, 26, .inl m_v)), (a3, .inl (cB31, 416, .inl m_h.1)), (a4, .inl (cB32, 78, .inl m_h.2.1))])) (tX11 kq ((cB30, .int) :: (cB31, .int) :: (cB32, .int) :: [])) (fun (r : Int32) _ => r = out.1) ((a0, .inr (9, [.int out.2.1.1, .int out.2.1.2.1, .int out.2.1.2.2, .ref a1, g11, g12, g13, g14, g15, g16, g17, g18, g19, g20, g21, .ref a2, g22, .ref a3, .ref a4, .int out.2.2.2.1.2.2.1, .int out.2.2.2.1.2.2.2, g23, g24, g25, g26, g27, g28, .int out.2.2.2.2.1, .int out.2.2.2.2.2.1, .int out.2.2.2.2.2.2])) :: bX11 a1 uq kq q_q ([(a2, .inl (cB30, 26, .inl out.2.2.1)), (a3, .inl (cB31, 416, .inl out.2.2.2.1.1)), (a4, .inl (cB32, 78, .inl out.2.2.2.1.2.1))])) 0 0 := by
  refine Met.ofW (cc := cX12_day) (maxL := 1) (ret := (some .int)) (by decide) rfl ?_
  intro p e s m args below meth c s₁ B0 hml hv
  obtain ⟨rfl, hsz, hP, hK, hD0, hN⟩ := hv
  have hx := B0.exec
  have hb := B0.bytes
  have hr := B0.returns
  have hts := atoms_spec (ws := vfX12_day) B0.pre
  have hown : s.vm.findClass RX12 = some m.cls := findClass_of_methodNamed B0.named
  have hlocks := B0.notSynchronized
  subst hsz
  have hD := hD0.self (sz := s.heap.size)
  generalize hAe : va_A ((a0, .inr (9, [.int m_t.1, .int m_t.2.1, .int m_t.2.2, .ref a1, g11, g12, g13, g14, g15, g16, g17, g18, g19, g20, g21, .ref a2, g22, .ref a3, .ref a4, .int m_h.2.2.1, .int m_h.2.2.2, g23, g24, g25, g26, g27, g28, .int m_c.1, .int m_c.2.1, .int m_c.2.2])) :: bX11 a1 uq kq q_q ([(a2, .inl (cB30, 26, .inl m_v)), (a3, .inl (cB31, 416, .inl m_h.1)), (a4, .inl (cB32, 78, .inl m_h.2.1))])) s.heap.size = A at hD ⊢
  have hA : ∀ q : Nat, s.heap.size ≤ q → A q := fun q h => by rw [← hAe]; exact Or.inr h
  have hS : va_S A s.heap s.heap [] := va_S.rf
  have hP : va_P (dC, dI) vwCl ((a0, .inr (9, [.int m_t.1, .int m_t.2.1, .int m_t.2.2, .ref a1, g11, g12, g13, g14, g15, g16, g17, g18, g19, g20, g21, .ref a2, g22, .ref a3, .ref a4, .int m_h.2.2.1, .int m_h.2.2.2, g23, g24, g25, g26, g27, g28, .int m_c.1, .int m_c.2.1, .int m_c.2.2])) :: bX11 a1 uq kq q_q ([(a2, .inl (cB30, 26, .inl m_v)), (a3, .inl (cB31, 416, .inl m_h.1)), (a4, .inl (cB32, 78, .inl m_h.2.1))])) s.heap := hP
  have hl := lv_entry ([.ref a0]) (n := 1) (Nat.le_of_ble_eq_true rfl)
  rw [lg_entry_eq]
  generalize (lg_sl ([.ref a0]) ++ List.replicate (1 - (lg_sl ([.ref a0])).length) Slot.unset).toArray = ls at hl ⊢
  have hl : lv_has ls 1 [(0, .ref a0)] := hl
  refine W_q (fun QQ hQQ => ?_)
  rw [f_X12_day] at h
  refine lv_aload_n hx hb (zat zrX12_day_0_ok 0 rfl) rfl (lv_at hl 0 rfl) ?_
  refine lv_iconst (v := 0) hx hb (zat zrX12_day_0_ok 1 rfl) (by decide) ?_
  refine va_put (D := (dC, dI)) (ci := 9) (v := .int 0) (ty := .int) (C := RX12) (T := TX12) (N := 30) hx hb hts ifX12_day_X12 tyX12 tyX12_ok nmX12 hown hK hP hD hS 0 rfl rfl 0 (by decide) (hts (.fieldLink RX12 36 "HookPierModel" "thrown" "I") (List.mem_of_getElem? (i := 1) rfl)) (fun _ h9 => h9) rfl (by decide +kernel) rfl rfl (Nat.le_of_ble_eq_true rfl) (zat zrX12_day_0_ok 2 rfl) (fun H locs hP hD hS => ?_)
  obtain ⟨hP, hD⟩ := pd_mk ((a0, .inr (9, [.int 0, .int m_t.2.1, .int m_t.2.2, .ref a1, g11, g12, g13, g14, g15, g16, g17, g18, g19, g20, g21, .ref a2, g22, .ref a3, .ref a4, .int m_h.2.2.1, .int m_h.2.2.2, g23, g24, g25, g26, g27, g28, .int m_c.1, .int m_c.2.1, .int m_c.2.2])) :: bX11 a1 uq kq q_q ([(a2, .inl (cB30, 26, .inl m_v)), (a3, .inl (cB31, 416, .inl m_h.1)), (a4, .inl (cB32, 78, .inl m_h.2.1))])) hP hD
  refine lv_aload_n hx hb (zat zrX12_day_0_ok 3 rfl) rfl (lv_at hl 0 rfl) ?_
  refine va_get (D := (dC, dI)) (ci := 9) (v := .ref a1) (C := RX12) (T := TX12) (N := 30) hx hb hts ifX12_day_X12 hown hK hP 0 rfl rfl 3 (by decide) (hts (.fieldLink RX12 299 "HookPierModel" "pier" "LHookPierModel$Pier;") (List.mem_of_getElem? (i := 2) rfl)) (fun _ h9 => h9) rfl (zat zrX12_day_0_ok 4 rfl) ?_
  refine lv_ifnonnull (tgt := 18) hx hb (zat zrX12_day_0_ok 5 rfl) (by decide) ?_
  refine lv_aload_n hx hb (zat zrX12_day_0_ok 7 rfl) rfl (lv_at hl 0 rfl) ?_
  refine va_get (D := (dC, dI)) (ci := 9) (v := .ref a2) (C := RX12) (T := TX12) (N := 30) hx hb hts ifX12_day_X12 hown hK hP 0 rfl rfl 15 (by decide) (hts (.fieldLink RX12 17 "HookPierModel" "v" "[I") (List.mem_of_getElem? (i := 3) rfl)) (fun _ h9 => h9) rfl (zat zrX12_day_0_ok 8 rfl) ?_
  refine lv_bipush (v := 23) hx hb (zat zrX12_day_0_ok 9 rfl) (by decide) ?_
  refine va_iald hx hb hK hP 16 14 rfl rfl (by unfold vp_in; decide) (zat zrX12_day_0_ok 10 rfl) ?_
  refine lv_sipush (v := 999) hx hb (zat zrX12_day_0_ok 11 rfl) (by decide) ?_
  refine lv_icmp_ne (tgt := 37) hx hb (zat zrX12_day_0_ok 12 rfl) (by decide) (fun c28 => ?_) (fun c28 => ?_)
  · have h := (if_neg c28).symm.trans h
    refine lv_aload_n hx hb (zat zrX12_day_0_ok 17 rfl) rfl (lv_at hl 0 rfl) ?_
    obtain ⟨o38, eo38, h⟩ := bd_of h
    refine ck_v (wc := ([(a0, .inr (9, [.int 0, .int m_t.2.1, .int m_t.2.2, .ref a1, g11, g12, g13, g14, g15, g16, g17, g18, g19, g20, g21, .ref a2, g22, .ref a3, .ref a4, .int m_h.2.2.1, .int m_h.2.2.2, g23, g24, g25, g26, g27, g28, .int m_c.1, .int m_c.2.1, .int m_c.2.2])), (a2, .inl (cB30, 26, .inl m_v)), (a3, .inl (cB31, 416, .inl m_h.1)), (a4, .inl (cB32, 78, .inl m_h.2.1))])) (wr := (bX11 a1 uq kq q_q [])) hP hD hK hS hA [0, 16, 17, 18] [1, 2, 3, 4, 5, 6, 7, 8, 9, 10, 11, 12, 13, 14, 15] rfl rfl (by decide) (by decide) (by decide) (fun hPc hDc => (va_runV (As := []) (rest := []) ⟨hx, hb, hml, hown, hts⟩ (kfX12_remembers l dC dI a0 a2 a3 a4 m_v m_h (.int 0) (.int m_t.2.1) (.int m_t.2.2) (.ref a1) (g11) (g12) (g13) (g14) (g15) (g16) (g17) (g18) (g19) (g20) (g21) (g22) (g23) (g24) (g25) (g26) (g27) (g28) (.int m_c.1) (.int m_c.2.1) (.int m_c.2.2) cB30 cB31 cB32 H.size o38 eo38) (cwV 0 hts gfX12_day_0 rfl rfl rfl (by decide +kernel) ⟨(Nat.le_of_ble_eq_true rfl), (Nat.le_of_ble_eq_true rfl)⟩) (PV hPc (hK.sub (tys' := ((cB30, .int) :: (cB31, .int) :: (cB32, .int) :: [])) [14, 15, 16] rfl) hDc hN 0 rfl rfl) rfl rfl hl.1 rfl (lv_room (Nat.le_of_ble_eq_true rfl)) (zat zrX12_day_0_ok 18 rfl) ⟨(Nat.le_of_ble_eq_true rfl), (Nat.le_of_ble_eq_true rfl)⟩)) (fun _ H locs hw hP hD _ hS => ?_)
    obtain ⟨hP, hD⟩ := pd_mk (bX11 a1 uq kq q_q ([(a0, .inr (9, [.int 0, .int m_t.2.1, .int m_t.2.2, .ref a1, g11, g12, g13, g14, g15, g16, g17, g18, g19, g20, g21, .ref a2, g22, .ref a3, .ref a4, .int o38.2.2.1, .int o38.2.2.2, g23, g24, g25, g26, g27, g28, .int m_c.1, .int m_c.2.1, .int m_c.2.2])), (a2, .inl (cB30, 26, .inl m_v)), (a3, .inl (cB31, 416, .inl o38.1)), (a4, .inl (cB32, 78, .inl o38.2.1))])) hP hD
    refine lv_aload_n hx hb (zat zrX12_day_0_ok 19 rfl) rfl (lv_at hl 0 rfl) ?_
    refine lv_aload_n hx hb (zat zrX12_day_0_ok 20 rfl) rfl (lv_at hl 0 rfl) ?_
    refine lv_aload_n hx hb (zat zrX12_day_0_ok 21 rfl) rfl (lv_at hl 0 rfl) ?_
    refine va_get (D := (dC, dI)) (ci := 9) (v := .ref a2) (C := RX12) (T := TX12) (N := 30) hx hb hts ifX12_day_X12 hown hK hP 15 rfl rfl 15 (by decide) (hts (.fieldLink RX12 17 "HookPierModel" "v" "[I") (List.mem_of_getElem? (i := 3) rfl)) (fun _ h9 => h9) rfl (zat zrX12_day_0_ok 22 rfl) ?_
    obtain ⟨o47, eo47, h⟩ := bd_of h
    refine ck_i (wc := ((a0, .inr (9, [.int 0, .int m_t.2.1, .int m_t.2.2, .ref a1, g11, g12, g13, g14, g15, g16, g17, g18, g19, g20, g21, .ref a2, g22, .ref a3, .ref a4, .int o38.2.2.1, .int o38.2.2.2, g23, g24, g25, g26, g27, g28, .int m_c.1, .int m_c.2.1, .int m_c.2.2])) :: bX11 a1 uq kq q_q ([(a2, .inl (cB30, 26, .inl m_v))]))) (wr := ([(a3, .inl (cB31, 416, .inl o38.1)), (a4, .inl (cB32, 78, .inl o38.2.1))])) hP hD hK hS hA [15, 0, 1, 2, 3, 4, 5, 6, 7, 8, 9, 10, 11, 12, 13, 14, 16] [17, 18] rfl rfl (by decide) (by decide) (by decide) (fun hPc hDc => (va_runV (As := [.ref a2]) (rest := [.ref a0]) ⟨hx, hb, hml, hown, hts⟩ (kfX12_goesBy l dC dI a0 a2 a1 uq kq m_v m_c (.int 0) (.int m_t.2.1) (.int m_t.2.2) (g11) (g12) (g13) (g14) (g15) (g16) (g17) (g18) (g19) (g20) (g21) (g22) (.ref a3) (.ref a4) (.int o38.2.2.1) (.int o38.2.2.2) (g23) (g24) (g25) (g26) (g27) (g28) q_q cB30 H.size o47 eo47) (cwV 1 hts gfX12_day_1 rfl rfl rfl (by decide +kernel) ⟨(Nat.le_of_ble_eq_true rfl), (Nat.le_of_ble_eq_true rfl)⟩) (PV hPc (hK.sub (tys' := (tX11 kq ((cB30, .int) :: []))) [0, 1, 2, 3, 4, 5, 6, 7, 8, 9, 10, 11, 12, 13, 14] rfl) hDc hN 0 rfl rfl) rfl rfl hl.1 rfl (lv_room (Nat.le_of_ble_eq_true rfl)) (zat zrX12_day_0_ok 23 rfl) ⟨(Nat.le_of_ble_eq_true rfl), (Nat.le_of_ble_eq_true rfl)⟩)) (fun r47 _ H locs hw hP hD _ hS => ?_)
    obtain rfl := hw
    obtain ⟨hP, hD⟩ := pd_mk ((a3, .inl (cB31, 416, .inl o38.1)) :: (a4, .inl (cB32, 78, .inl o38.2.1)) :: (a0, .inr (9, [.int 0, .int m_t.2.1, .int m_t.2.2, .ref a1, g11, g12, g13, g14, g15, g16, g17, g18, g19, g20, g21, .ref a2, g22, .ref a3, .ref a4, .int o38.2.2.1, .int o38.2.2.2, g23, g24, g25, g26, g27, g28, .int o47.2.2.1, .int o47.2.2.2.1, .int o47.2.2.2.2])) :: bX11 a1 uq kq q_q ([(a2, .inl (cB30, 26, .inl o47.2.1))])) hP hD
    obtain ⟨o50, eo50⟩ : ∃ o, o = f_X12_good o47.1 ((0 : Int32), m_t.2) := ⟨_, rfl⟩
    have h := nm_of h o50 eo50
    refine ck_i (wc := ([(a0, .inr (9, [.int 0, .int m_t.2.1, .int m_t.2.2, .ref a1, g11, g12, g13, g14, g15, g16, g17, g18, g19, g20, g21, .ref a2, g22, .ref a3, .ref a4, .int o38.2.2.1, .int o38.2.2.2, g23, g24, g25, g26, g27, g28, .int o47.2.2.1, .int o47.2.2.2.1, .int o47.2.2.2.2]))])) (wr := ((a3, .inl (cB31, 416, .inl o38.1)) :: (a4, .inl (cB32, 78, .inl o38.2.1)) :: bX11 a1 uq kq q_q ([(a2, .inl (cB30, 26, .inl o47.2.1))]))) hP hD hK hS hA [2] [0, 1, 3, 4, 5, 6, 7, 8, 9, 10, 11, 12, 13, 14, 15, 16, 17, 18] rfl rfl (by decide) (by decide) (by decide) (fun hPc hDc => (va_runV (As := [.int o47.1]) (rest := []) ⟨hx, hb, hml, hown, hts⟩ (kfX12_good l dC dI a0 o47.1 ((0 : Int32), m_t.2) (.ref a1) (g11) (g12) (g13) (g14) (g15) (g16) (g17) (g18) (g19) (g20) (g21) (.ref a2) (g22) (.ref a3) (.ref a4) (.int o38.2.2.1) (.int o38.2.2.2) (g23) (g24) (g25) (g26) (g27) (g28) (.int o47.2.2.1) (.int o47.2.2.2.1) (.int o47.2.2.2.2) H.size o50 eo50.symm) (cwV 1 hts gfX12_day_2 rfl rfl rfl (by decide +kernel) ⟨(Nat.le_of_ble_eq_true rfl), (Nat.le_of_ble_eq_true rfl)⟩) (PV hPc (hK.sub (tys' := ([])) [] rfl) hDc hN 0 rfl rfl) rfl rfl hl.1 rfl (lv_room (Nat.le_of_ble_eq_true rfl)) (zat zrX12_day_0_ok 24 rfl) ⟨(Nat.le_of_ble_eq_true rfl), (Nat.le_of_ble_eq_true rfl)⟩)) (fun r50 _ H locs hw hP hD _ hS => ?_)
    obtain rfl := hw
    obtain ⟨hP, hD⟩ := pd_mk ((a3, .inl (cB31, 416, .inl o38.1)) :: (a4, .inl (cB32, 78, .inl o38.2.1)) :: bX11 a1 uq kq q_q ([(a2, .inl (cB30, 26, .inl o47.2.1)), (a0, .inr (9, [.int o50.2.1, .int o50.2.2.1, .int o50.2.2.2, .ref a1, g11, g12, g13, g14, g15, g16, g17, g18, g19, g20, g21, .ref a2, g22, .ref a3, .ref a4, .int o38.2.2.1, .int o38.2.2.2, g23, g24, g25, g26, g27, g28, .int o47.2.2.1, .int o47.2.2.2.1, .int o47.2.2.2.2]))])) hP hD
    obtain rfl := Option.some.inj h
    obtain ⟨hP9, hD9⟩ := pd_sub ((a0, .inr (9, [.int o50.2.1, .int o50.2.2.1, .int o50.2.2.2, .ref a1, g11, g12, g13, g14, g15, g16, g17, g18, g19, g20, g21, .ref a2, g22, .ref a3, .ref a4, .int o38.2.2.1, .int o38.2.2.2, g23, g24, g25, g26, g27, g28, .int o47.2.2.1, .int o47.2.2.2.1, .int o47.2.2.2.2])) :: bX11 a1 uq kq q_q ([(a2, .inl (cB30, 26, .inl o47.2.1)), (a3, .inl (cB31, 416, .inl o38.1)), (a4, .inl (cB32, 78, .inl o38.2.1))])) [18, 2, 3, 4, 5, 6, 7, 8, 9, 10, 11, 12, 13, 14, 15, 16, 17, 0, 1] hP hD (by decide) rfl
    have hK9 := hK.sub (tys' := []) [] rfl
    rw [hQQ]
    exact W.iret (v := o50.1) hx hb hr (fun t ht hW => ⟨⟨o50.1, (), rfl, rfl, by rw [ht]; exact hP9, va_K.moved hW.alike hK9, hD9⟩, hS.F ht⟩) hS.2.2 (zat zrX12_day_0_ok 25 rfl)
  · have h := (if_pos c28).symm.trans h
    refine lv_aload_n hx hb (zat zrX12_day_0_ok 13 rfl) rfl (lv_at hl 0 rfl) ?_
    refine lv_iconst (v := 3) hx hb (zat zrX12_day_0_ok 14 rfl) (by decide) ?_
    obtain ⟨o33, eo33⟩ : ∃ o, o = f_X12_refused (3 : Int32) ((0 : Int32), m_t.2) := ⟨_, rfl⟩
    have h := nm_of h o33 eo33
    refine ck_i (wc := ([(a0, .inr (9, [.int 0, .int m_t.2.1, .int m_t.2.2, .ref a1, g11, g12, g13, g14, g15, g16, g17, g18, g19, g20, g21, .ref a2, g22, .ref a3, .ref a4, .int m_h.2.2.1, .int m_h.2.2.2, g23, g24, g25, g26, g27, g28, .int m_c.1, .int m_c.2.1, .int m_c.2.2]))])) (wr := (bX11 a1 uq kq q_q ([(a2, .inl (cB30, 26, .inl m_v)), (a3, .inl (cB31, 416, .inl m_h.1)), (a4, .inl (cB32, 78, .inl m_h.2.1))]))) hP hD hK hS hA [0] [1, 2, 3, 4, 5, 6, 7, 8, 9, 10, 11, 12, 13, 14, 15, 16, 17, 18] rfl rfl (by decide) (by decide) (by decide) (fun hPc hDc => (va_runV (As := [.int 3]) (rest := []) ⟨hx, hb, hml, hown, hts⟩ (kfX12_refused l dC dI a0 (3 : Int32) ((0 : Int32), m_t.2) (.ref a1) (g11) (g12) (g13) (g14) (g15) (g16) (g17) (g18) (g19) (g20) (g21) (.ref a2) (g22) (.ref a3) (.ref a4) (.int m_h.2.2.1) (.int m_h.2.2.2) (g23) (g24) (g25) (g26) (g27) (g28) (.int m_c.1) (.int m_c.2.1) (.int m_c.2.2) H.size o33 eo33.symm) (cwV 1 hts gfX12_day_3 rfl rfl rfl (by decide +kernel) ⟨(Nat.le_of_ble_eq_true rfl), (Nat.le_of_ble_eq_true rfl)⟩) (PV hPc (hK.sub (tys' := ([])) [] rfl) hDc hN 0 rfl rfl) rfl rfl hl.1 rfl (lv_room (Nat.le_of_ble_eq_true rfl)) (zat zrX12_day_0_ok 15 rfl) ⟨(Nat.le_of_ble_eq_true rfl), (Nat.le_of_ble_eq_true rfl)⟩)) (fun r33 _ H locs hw hP hD _ hS => ?_)
    obtain rfl := hw
    obtain ⟨hP, hD⟩ := pd_mk (bX11 a1 uq kq q_q ([(a2, .inl (cB30, 26, .inl m_v)), (a3, .inl (cB31, 416, .inl m_h.1)), (a4, .inl (cB32, 78, .inl m_h.2.1)), (a0, .inr (9, [.int o33.1, .int o33.2.1, .int o33.2.2, .ref a1, g11, g12, g13, g14, g15, g16, g17, g18, g19, g20, g21, .ref a2, g22, .ref a3, .ref a4, .int m_h.2.2.1, .int m_h.2.2.2, g23, g24, g25, g26, g27, g28, .int m_c.1, .int m_c.2.1, .int m_c.2.2]))])) hP hD
    obtain rfl := Option.some.inj h
    obtain ⟨hP9, hD9⟩ := pd_sub ((a0, .inr (9, [.int o33.1, .int o33.2.1, .int o33.2.2, .ref a1, g11, g12, g13, g14, g15, g16, g17, g18, g19, g20, g21, .ref a2, g22, .ref a3, .ref a4, .int m_h.2.2.1, .int m_h.2.2.2, g23, g24, g25, g26, g27, g28, .int m_c.1, .int m_c.2.1, .int m_c.2.2])) :: bX11 a1 uq kq q_q ([(a2, .inl (cB30, 26, .inl m_v)), (a3, .inl (cB31, 416, .inl m_h.1)), (a4, .inl (cB32, 78, .inl m_h.2.1))])) [18, 0, 1, 2, 3, 4, 5, 6, 7, 8, 9, 10, 11, 12, 13, 14, 15, 16, 17] hP hD (by decide) rfl
    have hK9 := hK.sub (tys' := []) [] rfl
    rw [hQQ]
    exact W.iret (v := (-1 : Int32)) hx hb hr (fun t ht hW => ⟨⟨(-1 : Int32), (), rfl, rfl, by rw [ht]; exact hP9, va_K.moved hW.alike hK9, hD9⟩, hS.F ht⟩) hS.2.2 (zat zrX12_day_0_ok 16 rfl)
noncomputable def zrX12_seed_0 : List ZR := zc 0 true (.aload_n 0) 1 (zc 1 true (.iconst 0) 1 (zc 2 true (.putfield 36) 3 (zc 5 true (.aload_n 0) 1 (zc 6 true (.getfield 299) 3 (zc 9 true (.ifnonnull 9) 3 (zc 12 false (.nop) 6 (zc 18 true (.iload_n 1) 1 (zc 19 true (.iconst 0) 1 (zc 20 true (.ldc_w 489) 3 (zc 23 true (.invokestatic 115) 3 (zc 26 true (.ifCond .ne 9) 3 (zc 29 true (.aload_n 0) 1 (zc 30 true (.iconst 2) 1 (zc 31 true (.invokevirtual 498) 3 (zc 34 true (.ireturn) 1 (zc 35 true (.aload_n 0) 1 (zc 36 true (.getfield 17) 3 (zc 39 true (.bipush 24) 2 (zc 41 true (.iload_n 1) 1 (zc 42 true (.iastore) 1 (zc 43 true (.aload_n 0) 1 (zc 44 true (.invokevirtual 504) 3 (zc 47 true (.ireturn) 1 ([]))))))))))))))))))))))))
theorem zrX12_seed_0_ok : zck 0 ((zby cX12_seed).drop 0) zrX12_seed_0 = true := by decide +kernel
def vfX12_seed : List Cond := List.cons (.code yX12_seed cX12_seed 2 (some .boolean)) (apW [.fieldLink RX12 36 "HookPierModel" "thrown" "I", .fieldLink RX12 299 "HookPierModel" "pier" "LHookPierModel$Pier;", .constant RX12 489 (65536), .methodLink RX12 115 yX12_in, .static yX12_in, .initialized RX12, .fieldLink RX12 17 "HookPierModel" "v" "[I", .methodLink RX12 504 yX12_granted, .instanceMethod yX12_granted, .selects RX12 yX12_granted yX12_granted, .methodLink RX12 498 yX12_denied, .instanceMethod yX12_denied, .selects RX12 yX12_denied yX12_denied] (apW wsX120 (apW vfX12_in (apW vfX12_granted (vfX12_denied)))))
theorem ifX12_seed_X12 : ∀ w ∈ wsX120, w ∈ vfX12_seed := fun _ h => (List.mem_cons_of_mem _ (List.mem_append_right _ (List.mem_append_left _ h)))
theorem qfX12_seed : Good vfX12_seed := gd_cons (by decide +kernel) (gd_app (gd_dec (by decide +kernel) : Good [.fieldLink RX12 36 "HookPierModel" "thrown" "I", .fieldLink RX12 299 "HookPierModel" "pier" "LHookPierModel$Pier;", .constant RX12 489 (65536), .methodLink RX12 115 yX12_in, .static yX12_in, .initialized RX12, .fieldLink RX12 17 "HookPierModel" "v" "[I", .methodLink RX12 504 yX12_granted, .instanceMethod yX12_granted, .selects RX12 yX12_granted yX12_granted, .methodLink RX12 498 yX12_denied, .instanceMethod yX12_denied, .selects RX12 yX12_denied yX12_denied]) (gd_app qsX12 (gd_app qfX12_in (gd_app qfX12_granted qfX12_denied))))
theorem gfX12_seed_0 : GoodIn vfX12_seed (va_wsS RX12 115 yX12_in vfX12_in) := goodIn_app (goodIn_r [.methodLink RX12 115 yX12_in, .static yX12_in, .initialized RX12] [4, 5, 6] rfl (by decide +kernel)) (goodIn_m (fun _ h => (List.mem_cons_of_mem _ (List.mem_append_right _ (List.mem_append_right _ (List.mem_append_left _ h))))) qfX12_in)
theorem gfX12_seed_1 : GoodIn vfX12_seed (wsV RX12 504 RX12 yX12_granted vfX12_granted) := goodIn_app (goodIn_r [.methodLink RX12 504 yX12_granted, .instanceMethod yX12_granted, .selects RX12 yX12_granted yX12_granted, .initialized RX12] [8, 9, 10, 6] rfl (by decide +kernel)) (goodIn_m (fun _ h => (List.mem_cons_of_mem _ (List.mem_append_right _ (List.mem_append_right _ (List.mem_append_right _ (List.mem_append_left _ h)))))) qfX12_granted)
theorem gfX12_seed_2 : GoodIn vfX12_seed (wsV RX12 498 RX12 yX12_denied vfX12_denied) := goodIn_app (goodIn_r [.methodLink RX12 498 yX12_denied, .instanceMethod yX12_denied, .selects RX12 yX12_denied yX12_denied, .initialized RX12] [11, 12, 13, 6] rfl (by decide +kernel)) (goodIn_m (fun _ h => (List.mem_cons_of_mem _ (List.mem_append_right _ (List.mem_append_right _ (List.mem_append_right _ (List.mem_append_right _ h)))))) qfX12_denied)
set_option maxHeartbeats 2000000 in
set_option maxRecDepth 100000 in
theorem kfX12_seed (l : Launch) (dC : Nat → ClassId) (dI : Nat → Nat → Nat) (a0 : Nat) (k1 : Int32) (a2 : Nat) (m_t : TX12_t) (m_v : TX12_v) (a5 : Nat) (g6 : Value) (g7 : Value) (g8 : Value) (g9 : Value) (g10 : Value) (g11 : Value) (g12 : Value) (g13 : Value) (g14 : Value) (g15 : Value) (g16 : Value) (g17 : Value) (g18 : Value) (g19 : Value) (g20 : Value) (g21 : Value) (g22 : Value) (g23 : Value) (g24 : Value) (g25 : Value) (g26 : Value) (g27 : Value) (g28 : Value) (g29 : Value) (g30 : Value) (cB31 : ClassId) (sz : Nat) (out : (Int32 × TX12_t × TX12_v)) (h : f_X12_seed k1 m_t m_v = out) : KCi l yX12_seed vfX12_seed ({ frames := 2, cells := 0, slots := 0, locals := 42 }) (dC, dI) [.ref a0, .int k1] sz ([(a0, .inr (9, [.int m_t.1, .int m_t.2.1, .int m_t.2.2, .ref a5, g6, g7, g8, g9, g10, g11, g12, g13, g14, g15, g16, .ref a2, g17, g18, g19, g20, g21, g22, g23, g24, g25, g26, g27, g28, g29, g30])), (a2, .inl (cB31, 26, .inl m_v))]) ((cB31, .int) :: []) (fun (r : Int32) _ => r = out.1 ∧ (0 ≤ r.toInt ∧ r.toInt ≤ 1)) ([(a0, .inr (9, [.int out.2.1.1, .int out.2.1.2.1, .int out.2.1.2.2, .ref a5, g6, g7, g8, g9, g10, g11, g12, g13, g14, g15, g16, .ref a2, g17, g18, g19, g20, g21, g22, g23, g24, g25, g26, g27, g28, g29, g30])), (a2, .inl (cB31, 26, .inl out.2.2))]) 0 0 := by
  refine Met.ofW (cc := cX12_seed) (maxL := 2) (ret := (some .boolean)) (by decide) rfl ?_
  intro p e s m args below meth c s₁ B0 hml hv
  obtain ⟨rfl, hsz, hP, hK, hD0, hN⟩ := hv
  have hx := B0.exec
  have hb := B0.bytes
  have hr := B0.returns
  have hts := atoms_spec (ws := vfX12_seed) B0.pre
  have hown : s.vm.findClass RX12 = some m.cls := findClass_of_methodNamed B0.named
  have hlocks := B0.notSynchronized
  subst hsz
  have hD := hD0.self (sz := s.heap.size)
  generalize hAe : va_A ([(a0, .inr (9, [.int m_t.1, .int m_t.2.1, .int m_t.2.2, .ref a5, g6, g7, g8, g9, g10, g11, g12, g13, g14, g15, g16, .ref a2, g17, g18, g19, g20, g21, g22, g23, g24, g25, g26, g27, g28, g29, g30])), (a2, .inl (cB31, 26, .inl m_v))]) s.heap.size = A at hD ⊢
  have hA : ∀ q : Nat, s.heap.size ≤ q → A q := fun q h => by rw [← hAe]; exact Or.inr h
  have hS : va_S A s.heap s.heap [] := va_S.rf
  have hP : va_P (dC, dI) vwCl ([(a0, .inr (9, [.int m_t.1, .int m_t.2.1, .int m_t.2.2, .ref a5, g6, g7, g8, g9, g10, g11, g12, g13, g14, g15, g16, .ref a2, g17, g18, g19, g20, g21, g22, g23, g24, g25, g26, g27, g28, g29, g30])), (a2, .inl (cB31, 26, .inl m_v))]) s.heap := hP
  have hl := lv_entry ([.ref a0, .int k1]) (n := 2) (Nat.le_of_ble_eq_true rfl)
  rw [lg_entry_eq]
  generalize (lg_sl ([.ref a0, .int k1]) ++ List.replicate (2 - (lg_sl ([.ref a0, .int k1])).length) Slot.unset).toArray = ls at hl ⊢
  have hl : lv_has ls 2 [(0, .ref a0), (1, .int k1)] := hl
  refine W_q (fun QQ hQQ => ?_)
  rw [f_X12_seed] at h
  refine lv_aload_n hx hb (zat zrX12_seed_0_ok 0 rfl) rfl (lv_at hl 0 rfl) ?_
  refine lv_iconst (v := 0) hx hb (zat zrX12_seed_0_ok 1 rfl) (by decide) ?_
  refine va_put (D := (dC, dI)) (ci := 9) (v := .int 0) (ty := .int) (C := RX12) (T := TX12) (N := 30) hx hb hts ifX12_seed_X12 tyX12 tyX12_ok nmX12 hown hK hP hD hS 0 rfl rfl 0 (by decide) (hts (.fieldLink RX12 36 "HookPierModel" "thrown" "I") (List.mem_of_getElem? (i := 1) rfl)) (fun _ h9 => h9) rfl (by decide +kernel) rfl rfl (Nat.le_of_ble_eq_true rfl) (zat zrX12_seed_0_ok 2 rfl) (fun H locs hP hD hS => ?_)
  obtain ⟨hP, hD⟩ := pd_mk ([(a0, .inr (9, [.int 0, .int m_t.2.1, .int m_t.2.2, .ref a5, g6, g7, g8, g9, g10, g11, g12, g13, g14, g15, g16, .ref a2, g17, g18, g19, g20, g21, g22, g23, g24, g25, g26, g27, g28, g29, g30])), (a2, .inl (cB31, 26, .inl m_v))]) hP hD
  refine lv_aload_n hx hb (zat zrX12_seed_0_ok 3 rfl) rfl (lv_at hl 0 rfl) ?_
  refine va_get (D := (dC, dI)) (ci := 9) (v := .ref a5) (C := RX12) (T := TX12) (N := 30) hx hb hts ifX12_seed_X12 hown hK hP 0 rfl rfl 3 (by decide) (hts (.fieldLink RX12 299 "HookPierModel" "pier" "LHookPierModel$Pier;") (List.mem_of_getElem? (i := 2) rfl)) (fun _ h9 => h9) rfl (zat zrX12_seed_0_ok 4 rfl) ?_
  refine lv_ifnonnull (tgt := 18) hx hb (zat zrX12_seed_0_ok 5 rfl) (by decide) ?_
  refine lv_iload_n hx hb (zat zrX12_seed_0_ok 7 rfl) rfl (lv_at hl 1 rfl) ?_
  refine lv_iconst (v := 0) hx hb (zat zrX12_seed_0_ok 8 rfl) (by decide) ?_
  refine lv_ldcw hx hb hown (hts (.constant RX12 489 (65536)) (List.mem_of_getElem? (i := 3) rfl)) (zat zrX12_seed_0_ok 9 rfl) ?_
  obtain ⟨o23, eo23⟩ : ∃ o, o = f_X12_in k1 (0 : Int32) (65536 : Int32) := ⟨_, rfl⟩
  have h := nm_of h o23 eo23
  refine ck_i (wc := []) (wr := ([(a0, .inr (9, [.int 0, .int m_t.2.1, .int m_t.2.2, .ref a5, g6, g7, g8, g9, g10, g11, g12, g13, g14, g15, g16, .ref a2, g17, g18, g19, g20, g21, g22, g23, g24, g25, g26, g27, g28, g29, g30])), (a2, .inl (cB31, 26, .inl m_v))])) hP hD hK hS hA [] [0, 1] rfl rfl (by decide) (by decide) (by decide) (fun hPc hDc => (va_runS (As := [.int k1, .int 0, .int 65536]) (rest := []) ⟨hx, hb, hml, hown, hts⟩ (kfX12_in l dC dI k1 (0 : Int32) (65536 : Int32) H.size o23 eo23.symm) (va_cwS 3 hts gfX12_seed_0 rfl rfl rfl (by decide +kernel) ⟨(Nat.le_of_ble_eq_true rfl), (Nat.le_of_ble_eq_true rfl)⟩) (PS hPc (hK.sub (tys' := ([])) [] rfl) hDc hN) rfl rfl hl.1 rfl (lv_room (Nat.le_of_ble_eq_true rfl)) (zat zrX12_seed_0_ok 10 rfl) ⟨(Nat.le_of_ble_eq_true rfl), (Nat.le_of_ble_eq_true rfl)⟩)) (fun r23 _ H locs hw hP hD _ hS => ?_)
  obtain ⟨hw, br23⟩ := hw
  obtain rfl := hw.symm
  obtain ⟨hP, hD⟩ := pd_mk ([(a0, .inr (9, [.int 0, .int m_t.2.1, .int m_t.2.2, .ref a5, g6, g7, g8, g9, g10, g11, g12, g13, g14, g15, g16, .ref a2, g17, g18, g19, g20, g21, g22, g23, g24, g25, g26, g27, g28, g29, g30])), (a2, .inl (cB31, 26, .inl m_v))]) hP hD
  refine lv_if_ne (tgt := 35) hx hb (zat zrX12_seed_0_ok 11 rfl) (by decide) (fun c26 => ?_) (fun c26 => ?_)
  · have h := (if_neg c26).symm.trans h
    refine lv_aload_n hx hb (zat zrX12_seed_0_ok 16 rfl) rfl (lv_at hl 0 rfl) ?_
    refine va_get (D := (dC, dI)) (ci := 9) (v := .ref a2) (C := RX12) (T := TX12) (N := 30) hx hb hts ifX12_seed_X12 hown hK hP 0 rfl rfl 15 (by decide) (hts (.fieldLink RX12 17 "HookPierModel" "v" "[I") (List.mem_of_getElem? (i := 7) rfl)) (fun _ h9 => h9) rfl (zat zrX12_seed_0_ok 17 rfl) ?_
    refine lv_bipush (v := 24) hx hb (zat zrX12_seed_0_ok 18 rfl) (by decide) ?_
    refine lv_iload_n hx hb (zat zrX12_seed_0_ok 19 rfl) rfl (lv_at hl 1 rfl) ?_
    refine va_iast hx hb hK hP hD hS 1 0 rfl rfl (by unfold vp_in; decide) (zat zrX12_seed_0_ok 20 rfl) (fun H locs hP hD hS => ?_)
    obtain ⟨hP, hD⟩ := pd_mk ([(a0, .inr (9, [.int 0, .int m_t.2.1, .int m_t.2.2, .ref a5, g6, g7, g8, g9, g10, g11, g12, g13, g14, g15, g16, .ref a2, g17, g18, g19, g20, g21, g22, g23, g24, g25, g26, g27, g28, g29, g30])), (a2, .inl (cB31, 26, .inl (upd m_v ((24 : Int32)).toNatClampNeg k1)))]) hP hD
    refine lv_aload_n hx hb (zat zrX12_seed_0_ok 21 rfl) rfl (lv_at hl 0 rfl) ?_
    obtain ⟨o44, eo44⟩ : ∃ o, o = f_X12_granted ((0 : Int32), m_t.2) := ⟨_, rfl⟩
    have h := nm_of h o44 eo44
    refine ck_i (wc := ([(a0, .inr (9, [.int 0, .int m_t.2.1, .int m_t.2.2, .ref a5, g6, g7, g8, g9, g10, g11, g12, g13, g14, g15, g16, .ref a2, g17, g18, g19, g20, g21, g22, g23, g24, g25, g26, g27, g28, g29, g30]))])) (wr := ([(a2, .inl (cB31, 26, .inl (upd m_v ((24 : Int32)).toNatClampNeg k1)))])) hP hD hK hS hA [0] [1] rfl rfl (by decide) (by decide) (by decide) (fun hPc hDc => (va_runV (As := []) (rest := []) ⟨hx, hb, hml, hown, hts⟩ (kfX12_granted l dC dI a0 ((0 : Int32), m_t.2) (.ref a5) (g6) (g7) (g8) (g9) (g10) (g11) (g12) (g13) (g14) (g15) (g16) (.ref a2) (g17) (g18) (g19) (g20) (g21) (g22) (g23) (g24) (g25) (g26) (g27) (g28) (g29) (g30) H.size o44 eo44.symm) (cwV 0 hts gfX12_seed_1 rfl rfl rfl (by decide +kernel) ⟨(Nat.le_of_ble_eq_true rfl), (Nat.le_of_ble_eq_true rfl)⟩) (PV hPc (hK.sub (tys' := ([])) [] rfl) hDc hN 0 rfl rfl) rfl rfl hl.1 rfl (lv_room (Nat.le_of_ble_eq_true rfl)) (zat zrX12_seed_0_ok 22 rfl) ⟨(Nat.le_of_ble_eq_true rfl), (Nat.le_of_ble_eq_true rfl)⟩)) (fun r44 _ H locs hw hP hD _ hS => ?_)
    obtain ⟨hw, br44⟩ := hw
    obtain rfl := hw
    obtain ⟨hP, hD⟩ := pd_mk ([(a2, .inl (cB31, 26, .inl (upd m_v ((24 : Int32)).toNatClampNeg k1))), (a0, .inr (9, [.int o44.1, .int o44.2.1, .int o44.2.2, .ref a5, g6, g7, g8, g9, g10, g11, g12, g13, g14, g15, g16, .ref a2, g17, g18, g19, g20, g21, g22, g23, g24, g25, g26, g27, g28, g29, g30]))]) hP hD
    obtain rfl := h
    obtain ⟨hP9, hD9⟩ := pd_sub ([(a0, .inr (9, [.int o44.1, .int o44.2.1, .int o44.2.2, .ref a5, g6, g7, g8, g9, g10, g11, g12, g13, g14, g15, g16, .ref a2, g17, g18, g19, g20, g21, g22, g23, g24, g25, g26, g27, g28, g29, g30])), (a2, .inl (cB31, 26, .inl (upd m_v ((24 : Int32)).toNatClampNeg k1)))]) [1, 0] hP hD (by decide) rfl
    have hK9 := hK.sub (tys' := []) [] rfl
    rw [hQQ]
    exact W.zret (v := (1 : Int32)) hx hb hr rfl (fun t ht hW => ⟨⟨(1 : Int32), (), rfl, ⟨rfl, (by decide)⟩, by rw [ht]; exact hP9, va_K.moved hW.alike hK9, hD9⟩, hS.F ht⟩) hS.2.2 (zat zrX12_seed_0_ok 23 rfl)
  · have h := (if_pos c26).symm.trans h
    refine lv_aload_n hx hb (zat zrX12_seed_0_ok 12 rfl) rfl (lv_at hl 0 rfl) ?_
    refine lv_iconst (v := 2) hx hb (zat zrX12_seed_0_ok 13 rfl) (by decide) ?_
    obtain ⟨o31, eo31⟩ : ∃ o, o = f_X12_denied (2 : Int32) ((0 : Int32), m_t.2) := ⟨_, rfl⟩
    have h := nm_of h o31 eo31
    refine ck_i (wc := ([(a0, .inr (9, [.int 0, .int m_t.2.1, .int m_t.2.2, .ref a5, g6, g7, g8, g9, g10, g11, g12, g13, g14, g15, g16, .ref a2, g17, g18, g19, g20, g21, g22, g23, g24, g25, g26, g27, g28, g29, g30]))])) (wr := ([(a2, .inl (cB31, 26, .inl m_v))])) hP hD hK hS hA [0] [1] rfl rfl (by decide) (by decide) (by decide) (fun hPc hDc => (va_runV (As := [.int 2]) (rest := []) ⟨hx, hb, hml, hown, hts⟩ (kfX12_denied l dC dI a0 (2 : Int32) ((0 : Int32), m_t.2) (.ref a5) (g6) (g7) (g8) (g9) (g10) (g11) (g12) (g13) (g14) (g15) (g16) (.ref a2) (g17) (g18) (g19) (g20) (g21) (g22) (g23) (g24) (g25) (g26) (g27) (g28) (g29) (g30) H.size o31 eo31.symm) (cwV 1 hts gfX12_seed_2 rfl rfl rfl (by decide +kernel) ⟨(Nat.le_of_ble_eq_true rfl), (Nat.le_of_ble_eq_true rfl)⟩) (PV hPc (hK.sub (tys' := ([])) [] rfl) hDc hN 0 rfl rfl) rfl rfl hl.1 rfl (lv_room (Nat.le_of_ble_eq_true rfl)) (zat zrX12_seed_0_ok 14 rfl) ⟨(Nat.le_of_ble_eq_true rfl), (Nat.le_of_ble_eq_true rfl)⟩)) (fun r31 _ H locs hw hP hD _ hS => ?_)
    obtain ⟨hw, br31⟩ := hw
    obtain rfl := hw
    obtain ⟨hP, hD⟩ := pd_mk ([(a2, .inl (cB31, 26, .inl m_v)), (a0, .inr (9, [.int o31.1, .int o31.2.1, .int o31.2.2, .ref a5, g6, g7, g8, g9, g10, g11, g12, g13, g14, g15, g16, .ref a2, g17, g18, g19, g20, g21, g22, g23, g24, g25, g26, g27, g28, g29, g30]))]) hP hD
    obtain rfl := h
    obtain ⟨hP9, hD9⟩ := pd_sub ([(a0, .inr (9, [.int o31.1, .int o31.2.1, .int o31.2.2, .ref a5, g6, g7, g8, g9, g10, g11, g12, g13, g14, g15, g16, .ref a2, g17, g18, g19, g20, g21, g22, g23, g24, g25, g26, g27, g28, g29, g30])), (a2, .inl (cB31, 26, .inl m_v))]) [1, 0] hP hD (by decide) rfl
    have hK9 := hK.sub (tys' := []) [] rfl
    rw [hQQ]
    exact W.zret (v := (0 : Int32)) hx hb hr rfl (fun t ht hW => ⟨⟨(0 : Int32), (), rfl, ⟨rfl, (by decide)⟩, by rw [ht]; exact hP9, va_K.moved hW.alike hK9, hD9⟩, hS.F ht⟩) hS.2.2 (zat zrX12_seed_0_ok 15 rfl)
noncomputable def zrX12_undo_0 : List ZR := zc 0 true (.aload_n 0) 1 (zc 1 true (.iconst 0) 1 (zc 2 true (.putfield 36) 3 (zc 5 true (.aload_n 0) 1 (zc 6 true (.getfield 299) 3 (zc 9 true (.ifnull 10) 3 (zc 12 true (.aload_n 0) 1 (zc 13 true (.getfield 301) 3 (zc 16 true (.ifCond .ne 10) 3 (zc 19 true (.aload_n 0) 1 (zc 20 true (.bipush 6) 2 (zc 22 true (.invokevirtual 498) 3 (zc 25 true (.ireturn) 1 (zc 26 true (.aload_n 0) 1 (zc 27 true (.dup) 1 (zc 28 true (.getfield 301) 3 (zc 31 true (.iconst 1) 1 (zc 32 true (.isub) 1 (zc 33 true (.putfield 301) 3 (zc 36 true (.iconst 0) 1 (zc 37 true (.istore_n 1) 1 (zc 38 true (.iload_n 1) 1 (zc 39 true (.bipush 26) 2 (zc 41 true (.if_icmp .ge 29) 3 (zc 44 true (.aload_n 0) 1 (zc 45 true (.getfield 17) 3 (zc 48 true (.iload_n 1) 1 (zc 49 true (.aload_n 0) 1 (zc 50 true (.getfield 24) 3 (zc 53 true (.bipush 26) 2 (zc 55 true (.aload_n 0) 1 (zc 56 true (.getfield 301) 3 (zc 59 true (.imul) 1 (zc 60 true (.iload_n 1) 1 (zc 61 true (.iadd) 1 (zc 62 true (.iaload) 1 (zc 63 true (.iastore) 1 (zc 64 true (.iinc 1 1) 3 (zc 67 true (.goto (-29)) 3 (zc 70 true (.aload_n 0) 1 (zc 71 true (.invokevirtual 504) 3 (zc 74 true (.ireturn) 1 ([]))))))))))))))))))))))))))))))))))))))))))
theorem zrX12_undo_0_ok : zck 0 ((zby cX12_undo).drop 0) zrX12_undo_0 = true := by decide +kernel
def vfX12_undo : List Cond := List.cons (.code yX12_undo cX12_undo 2 (some .boolean)) (apW [.fieldLink RX12 36 "HookPierModel" "thrown" "I", .fieldLink RX12 299 "HookPierModel" "pier" "LHookPierModel$Pier;", .fieldLink RX12 301 "HookPierModel" "acts" "I", .methodLink RX12 504 yX12_granted, .instanceMethod yX12_granted, .selects RX12 yX12_granted yX12_granted, .initialized RX12, .fieldLink RX12 17 "HookPierModel" "v" "[I", .fieldLink RX12 24 "HookPierModel" "past" "[I", .methodLink RX12 498 yX12_denied, .instanceMethod yX12_denied, .selects RX12 yX12_denied yX12_denied] (apW wsX120 (apW vfX12_granted (vfX12_denied))))
theorem ifX12_undo_X12 : ∀ w ∈ wsX120, w ∈ vfX12_undo := fun _ h => (List.mem_cons_of_mem _ (List.mem_append_right _ (List.mem_append_left _ h)))
theorem qfX12_undo : Good vfX12_undo := gd_cons (by decide +kernel) (gd_app (gd_dec (by decide +kernel) : Good [.fieldLink RX12 36 "HookPierModel" "thrown" "I", .fieldLink RX12 299 "HookPierModel" "pier" "LHookPierModel$Pier;", .fieldLink RX12 301 "HookPierModel" "acts" "I", .methodLink RX12 504 yX12_granted, .instanceMethod yX12_granted, .selects RX12 yX12_granted yX12_granted, .initialized RX12, .fieldLink RX12 17 "HookPierModel" "v" "[I", .fieldLink RX12 24 "HookPierModel" "past" "[I", .methodLink RX12 498 yX12_denied, .instanceMethod yX12_denied, .selects RX12 yX12_denied yX12_denied]) (gd_app qsX12 (gd_app qfX12_granted qfX12_denied)))
theorem gfX12_undo_0 : GoodIn vfX12_undo (wsV RX12 504 RX12 yX12_granted vfX12_granted) := goodIn_app (goodIn_r [.methodLink RX12 504 yX12_granted, .instanceMethod yX12_granted, .selects RX12 yX12_granted yX12_granted, .initialized RX12] [4, 5, 6, 7] rfl (by decide +kernel)) (goodIn_m (fun _ h => (List.mem_cons_of_mem _ (List.mem_append_right _ (List.mem_append_right _ (List.mem_append_left _ h))))) qfX12_granted)
theorem gfX12_undo_1 : GoodIn vfX12_undo (wsV RX12 498 RX12 yX12_denied vfX12_denied) := goodIn_app (goodIn_r [.methodLink RX12 498 yX12_denied, .instanceMethod yX12_denied, .selects RX12 yX12_denied yX12_denied, .initialized RX12] [10, 11, 12, 7] rfl (by decide +kernel)) (goodIn_m (fun _ h => (List.mem_cons_of_mem _ (List.mem_append_right _ (List.mem_append_right _ (List.mem_append_right _ h))))) qfX12_denied)
set_option maxHeartbeats 2000000 in
set_option maxRecDepth 100000 in
theorem kfX12_undo (l : Launch) (dC : Nat → ClassId) (dI : Nat → Nat → Nat) (a0 : Nat) (a1 : Nat) (a2 : Nat) (a3 : Nat) (m_t : TX12_t) (m_v : TX12_v) (m_h : TX12_h) (a7 : Nat) (g8 : Value) (g9 : Value) (g10 : Value) (g11 : Value) (g12 : Value) (g13 : Value) (g14 : Value) (g15 : Value) (g16 : Value) (g17 : Value) (g18 : Value) (g19 : Value) (g20 : Value) (g21 : Value) (g22 : Value) (g23 : Value) (g24 : Value) (g25 : Value) (g26 : Value) (g27 : Value) (g28 : Value) (cB29 : ClassId) (cB30 : ClassId) (cB31 : ClassId) (sz : Nat) (out : (Int32 × TX12_t × TX12_v × TX12_h)) (h : f_X12_undo m_t m_v m_h = some out) : KCi l yX12_undo vfX12_undo ({ frames := 2, cells := 0, slots := 0, locals := 42 }) (dC, dI) [.ref a0] sz ([(a0, .inr (9, [.int m_t.1, .int m_t.2.1, .int m_t.2.2, .ref a7, g8, g9, g10, g11, g12, g13, g14, g15, g16, g17, g18, .ref a1, g19, .ref a2, .ref a3, .int m_h.2.2.1, .int m_h.2.2.2, g20, g21, g22, g23, g24, g25, g26, g27, g28])), (a1, .inl (cB29, 26, .inl m_v)), (a2, .inl (cB30, 416, .inl m_h.1)), (a3, .inl (cB31, 78, .inl m_h.2.1))]) ((cB29, .int) :: (cB30, .int) :: (cB31, .int) :: []) (fun (r : Int32) _ => r = out.1 ∧ (0 ≤ r.toInt ∧ r.toInt ≤ 1)) ([(a0, .inr (9, [.int out.2.1.1, .int out.2.1.2.1, .int out.2.1.2.2, .ref a7, g8, g9, g10, g11, g12, g13, g14, g15, g16, g17, g18, .ref a1, g19, .ref a2, .ref a3, .int out.2.2.2.2.2.1, .int out.2.2.2.2.2.2, g20, g21, g22, g23, g24, g25, g26, g27, g28])), (a1, .inl (cB29, 26, .inl out.2.2.1)), (a2, .inl (cB30, 416, .inl out.2.2.2.1)), (a3, .inl (cB31, 78, .inl out.2.2.2.2.1))]) 0 0 := by
  refine Met.ofW (cc := cX12_undo) (maxL := 2) (ret := (some .boolean)) (by decide) rfl ?_
  intro p e s m args below meth c s₁ B0 hml hv
  obtain ⟨rfl, hsz, hP, hK, hD0, hN⟩ := hv
  have hx := B0.exec
  have hb := B0.bytes
  have hr := B0.returns
  have hts := atoms_spec (ws := vfX12_undo) B0.pre
  have hown : s.vm.findClass RX12 = some m.cls := findClass_of_methodNamed B0.named
  have hlocks := B0.notSynchronized
  subst hsz
  have hD := hD0.self (sz := s.heap.size)
  generalize hAe : va_A ([(a0, .inr (9, [.int m_t.1, .int m_t.2.1, .int m_t.2.2, .ref a7, g8, g9, g10, g11, g12, g13, g14, g15, g16, g17, g18, .ref a1, g19, .ref a2, .ref a3, .int m_h.2.2.1, .int m_h.2.2.2, g20, g21, g22, g23, g24, g25, g26, g27, g28])), (a1, .inl (cB29, 26, .inl m_v)), (a2, .inl (cB30, 416, .inl m_h.1)), (a3, .inl (cB31, 78, .inl m_h.2.1))]) s.heap.size = A at hD ⊢
  have hA : ∀ q : Nat, s.heap.size ≤ q → A q := fun q h => by rw [← hAe]; exact Or.inr h
  have hS : va_S A s.heap s.heap [] := va_S.rf
  have hP : va_P (dC, dI) vwCl ([(a0, .inr (9, [.int m_t.1, .int m_t.2.1, .int m_t.2.2, .ref a7, g8, g9, g10, g11, g12, g13, g14, g15, g16, g17, g18, .ref a1, g19, .ref a2, .ref a3, .int m_h.2.2.1, .int m_h.2.2.2, g20, g21, g22, g23, g24, g25, g26, g27, g28])), (a1, .inl (cB29, 26, .inl m_v)), (a2, .inl (cB30, 416, .inl m_h.1)), (a3, .inl (cB31, 78, .inl m_h.2.1))]) s.heap := hP
  have hl := lv_entry ([.ref a0]) (n := 2) (Nat.le_of_ble_eq_true rfl)
  rw [lg_entry_eq]
  generalize (lg_sl ([.ref a0]) ++ List.replicate (2 - (lg_sl ([.ref a0])).length) Slot.unset).toArray = ls at hl ⊢
  have hl : lv_has ls 2 [(0, .ref a0)] := hl
  refine W_q (fun QQ hQQ => ?_)
  rw [f_X12_undo] at h
  refine lv_aload_n hx hb (zat zrX12_undo_0_ok 0 rfl) rfl (lv_at hl 0 rfl) ?_
  refine lv_iconst (v := 0) hx hb (zat zrX12_undo_0_ok 1 rfl) (by decide) ?_
  refine va_put (D := (dC, dI)) (ci := 9) (v := .int 0) (ty := .int) (C := RX12) (T := TX12) (N := 30) hx hb hts ifX12_undo_X12 tyX12 tyX12_ok nmX12 hown hK hP hD hS 0 rfl rfl 0 (by decide) (hts (.fieldLink RX12 36 "HookPierModel" "thrown" "I") (List.mem_of_getElem? (i := 1) rfl)) (fun _ h9 => h9) rfl (by decide +kernel) rfl rfl (Nat.le_of_ble_eq_true rfl) (zat zrX12_undo_0_ok 2 rfl) (fun H locs hP hD hS => ?_)
  obtain ⟨hP, hD⟩ := pd_mk ([(a0, .inr (9, [.int 0, .int m_t.2.1, .int m_t.2.2, .ref a7, g8, g9, g10, g11, g12, g13, g14, g15, g16, g17, g18, .ref a1, g19, .ref a2, .ref a3, .int m_h.2.2.1, .int m_h.2.2.2, g20, g21, g22, g23, g24, g25, g26, g27, g28])), (a1, .inl (cB29, 26, .inl m_v)), (a2, .inl (cB30, 416, .inl m_h.1)), (a3, .inl (cB31, 78, .inl m_h.2.1))]) hP hD
  refine lv_aload_n hx hb (zat zrX12_undo_0_ok 3 rfl) rfl (lv_at hl 0 rfl) ?_
  refine va_get (D := (dC, dI)) (ci := 9) (v := .ref a7) (C := RX12) (T := TX12) (N := 30) hx hb hts ifX12_undo_X12 hown hK hP 0 rfl rfl 3 (by decide) (hts (.fieldLink RX12 299 "HookPierModel" "pier" "LHookPierModel$Pier;") (List.mem_of_getElem? (i := 2) rfl)) (fun _ h9 => h9) rfl (zat zrX12_undo_0_ok 4 rfl) ?_
  refine lv_ifnull hx hb (zat zrX12_undo_0_ok 5 rfl) ?_
  refine lv_aload_n hx hb (zat zrX12_undo_0_ok 6 rfl) rfl (lv_at hl 0 rfl) ?_
  refine va_get (D := (dC, dI)) (ci := 9) (v := .int m_h.2.2.1) (C := RX12) (T := TX12) (N := 30) hx hb hts ifX12_undo_X12 hown hK hP 0 rfl rfl 19 (by decide) (hts (.fieldLink RX12 301 "HookPierModel" "acts" "I") (List.mem_of_getElem? (i := 3) rfl)) (fun _ h9 => h9) rfl (zat zrX12_undo_0_ok 7 rfl) ?_
  refine lv_if_ne (tgt := 26) hx hb (zat zrX12_undo_0_ok 8 rfl) (by decide) (fun c16 => ?_) (fun c16 => ?_)
  · have h := (if_neg c16).symm.trans h
    refine lv_aload_n hx hb (zat zrX12_undo_0_ok 13 rfl) rfl (lv_at hl 0 rfl) ?_
    refine lv_dup hx hb (zat zrX12_undo_0_ok 14 rfl) rfl ?_
    refine va_get (D := (dC, dI)) (ci := 9) (v := .int m_h.2.2.1) (C := RX12) (T := TX12) (N := 30) hx hb hts ifX12_undo_X12 hown hK hP 0 rfl rfl 19 (by decide) (hts (.fieldLink RX12 301 "HookPierModel" "acts" "I") (List.mem_of_getElem? (i := 3) rfl)) (fun _ h9 => h9) rfl (zat zrX12_undo_0_ok 15 rfl) ?_
    refine lv_iconst (v := 1) hx hb (zat zrX12_undo_0_ok 16 rfl) (by decide) ?_
    refine lv_isub hx hb (zat zrX12_undo_0_ok 17 rfl) ?_
    refine va_put (D := (dC, dI)) (ci := 9) (v := .int (m_h.2.2.1 - (1 : Int32))) (ty := .int) (C := RX12) (T := TX12) (N := 30) hx hb hts ifX12_undo_X12 tyX12 tyX12_ok nmX12 hown hK hP hD hS 0 rfl rfl 19 (by decide) (hts (.fieldLink RX12 301 "HookPierModel" "acts" "I") (List.mem_of_getElem? (i := 3) rfl)) (fun _ h9 => h9) rfl (by decide +kernel) rfl rfl (Nat.le_of_ble_eq_true rfl) (zat zrX12_undo_0_ok 18 rfl) (fun H locs hP hD hS => ?_)
    obtain ⟨hP, hD⟩ := pd_mk ([(a0, .inr (9, [.int 0, .int m_t.2.1, .int m_t.2.2, .ref a7, g8, g9, g10, g11, g12, g13, g14, g15, g16, g17, g18, .ref a1, g19, .ref a2, .ref a3, .int (m_h.2.2.1 - (1 : Int32)), .int m_h.2.2.2, g20, g21, g22, g23, g24, g25, g26, g27, g28])), (a1, .inl (cB29, 26, .inl m_v)), (a2, .inl (cB30, 416, .inl m_h.1)), (a3, .inl (cB31, 78, .inl m_h.2.1))]) hP hD
    refine lv_iconst (v := 0) hx hb (zat zrX12_undo_0_ok 19 rfl) (by decide) ?_
    refine lv_istore_n (lv' := [(1, .int 0), (0, .ref a0)]) hx hb (zat zrX12_undo_0_ok 20 rfl) rfl hl (by decide) rfl (fun ls hl => ?_)
    have L38 : ∀ (n38 : Nat) (v38_l1 : Int32) (v38_m_v : TX12_v) (H : Heap) (locs : List Loc) (ls : Array Slot), f_X12_undo_L38 m_t m_h n38 v38_l1 v38_m_v = some out → va_P (dC, dI) vwCl ([(a0, .inr (9, [.int 0, .int m_t.2.1, .int m_t.2.2, .ref a7, g8, g9, g10, g11, g12, g13, g14, g15, g16, g17, g18, .ref a1, g19, .ref a2, .ref a3, .int (m_h.2.2.1 - (1 : Int32)), .int m_h.2.2.2, g20, g21, g22, g23, g24, g25, g26, g27, g28])), (a1, .inl (cB29, 26, .inl v38_m_v)), (a2, .inl (cB30, 416, .inl m_h.1)), (a3, .inl (cB31, 78, .inl m_h.2.1))]) H → va_D A ([(a0, .inr (9, [.int 0, .int m_t.2.1, .int m_t.2.2, .ref a7, g8, g9, g10, g11, g12, g13, g14, g15, g16, g17, g18, .ref a1, g19, .ref a2, .ref a3, .int (m_h.2.2.1 - (1 : Int32)), .int m_h.2.2.2, g20, g21, g22, g23, g24, g25, g26, g27, g28])), (a1, .inl (cB29, 26, .inl v38_m_v)), (a2, .inl (cB30, 416, .inl m_h.1)), (a3, .inl (cB31, 78, .inl m_h.2.1))]) → va_S A s.heap H locs → lv_has ls 2 [(1, .int v38_l1), (0, .ref a0)] → W p l e (headSpec vfX12_undo { frames := 2, cells := 0, slots := 0, locals := 42 }).room s m ([.ref a0]).toArray below meth c H locs 0 0 QQ (F0 m 38 ls []) := by
      intro n38
      induction n38 with
      | zero =>
        intro v38_l1 v38_m_v H locs ls h  _ _ _ _
        rw [f_X12_undo_L38] at h
        cases h
      | succ n38 ih38 =>
        intro v38_l1 v38_m_v H locs ls h  hP hD hS hl
        rw [f_X12_undo_L38] at h
        refine lv_iload_n hx hb (zat zrX12_undo_0_ok 21 rfl) rfl (lv_at hl 0 rfl) ?_
        refine lv_bipush (v := 26) hx hb (zat zrX12_undo_0_ok 22 rfl) (by decide) ?_
        refine lv_icmp_ge (tgt := 70) hx hb (zat zrX12_undo_0_ok 23 rfl) (by decide) (fun c41 => ?_) (fun c41 => ?_)
        · have h := (if_pos c41).symm.trans h
          refine lv_aload_n hx hb (zat zrX12_undo_0_ok 39 rfl) rfl (lv_at hl 1 rfl) ?_
          obtain ⟨o71, eo71⟩ : ∃ o, o = f_X12_granted ((0 : Int32), m_t.2) := ⟨_, rfl⟩
          have h := nm_of h o71 eo71
          refine ck_i (wc := ([(a0, .inr (9, [.int 0, .int m_t.2.1, .int m_t.2.2, .ref a7, g8, g9, g10, g11, g12, g13, g14, g15, g16, g17, g18, .ref a1, g19, .ref a2, .ref a3, .int (m_h.2.2.1 - (1 : Int32)), .int m_h.2.2.2, g20, g21, g22, g23, g24, g25, g26, g27, g28]))])) (wr := ([(a1, .inl (cB29, 26, .inl v38_m_v)), (a2, .inl (cB30, 416, .inl m_h.1)), (a3, .inl (cB31, 78, .inl m_h.2.1))])) hP hD hK hS hA [0] [1, 2, 3] rfl rfl (by decide) (by decide) (by decide) (fun hPc hDc => (va_runV (As := []) (rest := []) ⟨hx, hb, hml, hown, hts⟩ (kfX12_granted l dC dI a0 ((0 : Int32), m_t.2) (.ref a7) (g8) (g9) (g10) (g11) (g12) (g13) (g14) (g15) (g16) (g17) (g18) (.ref a1) (g19) (.ref a2) (.ref a3) (.int (m_h.2.2.1 - (1 : Int32))) (.int m_h.2.2.2) (g20) (g21) (g22) (g23) (g24) (g25) (g26) (g27) (g28) H.size o71 eo71.symm) (cwV 0 hts gfX12_undo_0 rfl rfl rfl (by decide +kernel) ⟨(Nat.le_of_ble_eq_true rfl), (Nat.le_of_ble_eq_true rfl)⟩) (PV hPc (hK.sub (tys' := ([])) [] rfl) hDc hN 0 rfl rfl) rfl rfl hl.1 rfl (lv_room (Nat.le_of_ble_eq_true rfl)) (zat zrX12_undo_0_ok 40 rfl) ⟨(Nat.le_of_ble_eq_true rfl), (Nat.le_of_ble_eq_true rfl)⟩)) (fun r71 _ H locs hw hP hD _ hS => ?_)
          obtain ⟨hw, br71⟩ := hw
          obtain rfl := hw
          obtain ⟨hP, hD⟩ := pd_mk ([(a1, .inl (cB29, 26, .inl v38_m_v)), (a2, .inl (cB30, 416, .inl m_h.1)), (a3, .inl (cB31, 78, .inl m_h.2.1)), (a0, .inr (9, [.int o71.1, .int o71.2.1, .int o71.2.2, .ref a7, g8, g9, g10, g11, g12, g13, g14, g15, g16, g17, g18, .ref a1, g19, .ref a2, .ref a3, .int (m_h.2.2.1 - (1 : Int32)), .int m_h.2.2.2, g20, g21, g22, g23, g24, g25, g26, g27, g28]))]) hP hD
          obtain rfl := Option.some.inj h
          obtain ⟨hP9, hD9⟩ := pd_sub ([(a0, .inr (9, [.int o71.1, .int o71.2.1, .int o71.2.2, .ref a7, g8, g9, g10, g11, g12, g13, g14, g15, g16, g17, g18, .ref a1, g19, .ref a2, .ref a3, .int (m_h.2.2.1 - (1 : Int32)), .int m_h.2.2.2, g20, g21, g22, g23, g24, g25, g26, g27, g28])), (a1, .inl (cB29, 26, .inl v38_m_v)), (a2, .inl (cB30, 416, .inl m_h.1)), (a3, .inl (cB31, 78, .inl m_h.2.1))]) [3, 0, 1, 2] hP hD (by decide) rfl
          have hK9 := hK.sub (tys' := []) [] rfl
          rw [hQQ]
          exact W.zret (v := (1 : Int32)) hx hb hr rfl (fun t ht hW => ⟨⟨(1 : Int32), (), rfl, ⟨rfl, (by decide)⟩, by rw [ht]; exact hP9, va_K.moved hW.alike hK9, hD9⟩, hS.F ht⟩) hS.2.2 (zat zrX12_undo_0_ok 41 rfl)
        · have h := (if_neg c41).symm.trans h
          refine lv_aload_n hx hb (zat zrX12_undo_0_ok 24 rfl) rfl (lv_at hl 1 rfl) ?_
          refine va_get (D := (dC, dI)) (ci := 9) (v := .ref a1) (C := RX12) (T := TX12) (N := 30) hx hb hts ifX12_undo_X12 hown hK hP 0 rfl rfl 15 (by decide) (hts (.fieldLink RX12 17 "HookPierModel" "v" "[I") (List.mem_of_getElem? (i := 8) rfl)) (fun _ h9 => h9) rfl (zat zrX12_undo_0_ok 25 rfl) ?_
          refine lv_iload_n hx hb (zat zrX12_undo_0_ok 26 rfl) rfl (lv_at hl 0 rfl) ?_
          refine lv_aload_n hx hb (zat zrX12_undo_0_ok 27 rfl) rfl (lv_at hl 1 rfl) ?_
          refine va_get (D := (dC, dI)) (ci := 9) (v := .ref a2) (C := RX12) (T := TX12) (N := 30) hx hb hts ifX12_undo_X12 hown hK hP 0 rfl rfl 17 (by decide) (hts (.fieldLink RX12 24 "HookPierModel" "past" "[I") (List.mem_of_getElem? (i := 9) rfl)) (fun _ h9 => h9) rfl (zat zrX12_undo_0_ok 28 rfl) ?_
          refine lv_bipush (v := 26) hx hb (zat zrX12_undo_0_ok 29 rfl) (by decide) ?_
          refine lv_aload_n hx hb (zat zrX12_undo_0_ok 30 rfl) rfl (lv_at hl 1 rfl) ?_
          refine va_get (D := (dC, dI)) (ci := 9) (v := .int (m_h.2.2.1 - (1 : Int32))) (C := RX12) (T := TX12) (N := 30) hx hb hts ifX12_undo_X12 hown hK hP 0 rfl rfl 19 (by decide) (hts (.fieldLink RX12 301 "HookPierModel" "acts" "I") (List.mem_of_getElem? (i := 3) rfl)) (fun _ h9 => h9) rfl (zat zrX12_undo_0_ok 31 rfl) ?_
          refine lv_imul hx hb (zat zrX12_undo_0_ok 32 rfl) ?_
          refine lv_iload_n hx hb (zat zrX12_undo_0_ok 33 rfl) rfl (lv_at hl 0 rfl) ?_
          refine lv_iadd hx hb (zat zrX12_undo_0_ok 34 rfl) ?_
          obtain ⟨hg62, h⟩ := gA_of h
          refine va_iald hx hb hK hP 2 1 rfl rfl hg62 (zat zrX12_undo_0_ok 35 rfl) ?_
          refine lv_topi (fun z62 ez62 => ?_)
          have h := nm_of h z62 ez62
          obtain ⟨hg63, h⟩ := gA_of h
          refine va_iast hx hb hK hP hD hS 1 0 rfl rfl hg63 (zat zrX12_undo_0_ok 36 rfl) (fun H locs hP hD hS => ?_)
          obtain ⟨hP, hD⟩ := pd_mk ([(a0, .inr (9, [.int 0, .int m_t.2.1, .int m_t.2.2, .ref a7, g8, g9, g10, g11, g12, g13, g14, g15, g16, g17, g18, .ref a1, g19, .ref a2, .ref a3, .int (m_h.2.2.1 - (1 : Int32)), .int m_h.2.2.2, g20, g21, g22, g23, g24, g25, g26, g27, g28])), (a1, .inl (cB29, 26, .inl (upd v38_m_v (v38_l1).toNatClampNeg z62))), (a2, .inl (cB30, 416, .inl m_h.1)), (a3, .inl (cB31, 78, .inl m_h.2.1))]) hP hD
          refine lv_iinc (v := (v38_l1 + (1 : Int32))) (lv' := [(1, .int (v38_l1 + (1 : Int32))), (0, .ref a0)]) hx hb (zat zrX12_undo_0_ok 37 rfl) hl (k := 0) rfl rfl (by decide) rfl (fun ls hl => ?_)
          refine lv_goto (tgt := 38) hx hb (zat zrX12_undo_0_ok 38 rfl) (by decide) ?_
          exact ih38 (v38_l1 + (1 : Int32)) (upd v38_m_v (v38_l1).toNatClampNeg z62) H _ ls h  hP hD hS (lv_sub hl [0, 1] rfl)
    exact L38 FU (0 : Int32) m_v H _ ls h  hP hD hS (lv_sub hl [0, 1] rfl)
  · have h := (if_pos c16).symm.trans h
    refine lv_aload_n hx hb (zat zrX12_undo_0_ok 9 rfl) rfl (lv_at hl 0 rfl) ?_
    refine lv_bipush (v := 6) hx hb (zat zrX12_undo_0_ok 10 rfl) (by decide) ?_
    obtain ⟨o22, eo22⟩ : ∃ o, o = f_X12_denied (6 : Int32) ((0 : Int32), m_t.2) := ⟨_, rfl⟩
    have h := nm_of h o22 eo22
    refine ck_i (wc := ([(a0, .inr (9, [.int 0, .int m_t.2.1, .int m_t.2.2, .ref a7, g8, g9, g10, g11, g12, g13, g14, g15, g16, g17, g18, .ref a1, g19, .ref a2, .ref a3, .int m_h.2.2.1, .int m_h.2.2.2, g20, g21, g22, g23, g24, g25, g26, g27, g28]))])) (wr := ([(a1, .inl (cB29, 26, .inl m_v)), (a2, .inl (cB30, 416, .inl m_h.1)), (a3, .inl (cB31, 78, .inl m_h.2.1))])) hP hD hK hS hA [0] [1, 2, 3] rfl rfl (by decide) (by decide) (by decide) (fun hPc hDc => (va_runV (As := [.int 6]) (rest := []) ⟨hx, hb, hml, hown, hts⟩ (kfX12_denied l dC dI a0 (6 : Int32) ((0 : Int32), m_t.2) (.ref a7) (g8) (g9) (g10) (g11) (g12) (g13) (g14) (g15) (g16) (g17) (g18) (.ref a1) (g19) (.ref a2) (.ref a3) (.int m_h.2.2.1) (.int m_h.2.2.2) (g20) (g21) (g22) (g23) (g24) (g25) (g26) (g27) (g28) H.size o22 eo22.symm) (cwV 1 hts gfX12_undo_1 rfl rfl rfl (by decide +kernel) ⟨(Nat.le_of_ble_eq_true rfl), (Nat.le_of_ble_eq_true rfl)⟩) (PV hPc (hK.sub (tys' := ([])) [] rfl) hDc hN 0 rfl rfl) rfl rfl hl.1 rfl (lv_room (Nat.le_of_ble_eq_true rfl)) (zat zrX12_undo_0_ok 11 rfl) ⟨(Nat.le_of_ble_eq_true rfl), (Nat.le_of_ble_eq_true rfl)⟩)) (fun r22 _ H locs hw hP hD _ hS => ?_)
    obtain ⟨hw, br22⟩ := hw
    obtain rfl := hw
    obtain ⟨hP, hD⟩ := pd_mk ([(a1, .inl (cB29, 26, .inl m_v)), (a2, .inl (cB30, 416, .inl m_h.1)), (a3, .inl (cB31, 78, .inl m_h.2.1)), (a0, .inr (9, [.int o22.1, .int o22.2.1, .int o22.2.2, .ref a7, g8, g9, g10, g11, g12, g13, g14, g15, g16, g17, g18, .ref a1, g19, .ref a2, .ref a3, .int m_h.2.2.1, .int m_h.2.2.2, g20, g21, g22, g23, g24, g25, g26, g27, g28]))]) hP hD
    obtain rfl := Option.some.inj h
    obtain ⟨hP9, hD9⟩ := pd_sub ([(a0, .inr (9, [.int o22.1, .int o22.2.1, .int o22.2.2, .ref a7, g8, g9, g10, g11, g12, g13, g14, g15, g16, g17, g18, .ref a1, g19, .ref a2, .ref a3, .int m_h.2.2.1, .int m_h.2.2.2, g20, g21, g22, g23, g24, g25, g26, g27, g28])), (a1, .inl (cB29, 26, .inl m_v)), (a2, .inl (cB30, 416, .inl m_h.1)), (a3, .inl (cB31, 78, .inl m_h.2.1))]) [3, 0, 1, 2] hP hD (by decide) rfl
    have hK9 := hK.sub (tys' := []) [] rfl
    rw [hQQ]
    exact W.zret (v := (0 : Int32)) hx hb hr rfl (fun t ht hW => ⟨⟨(0 : Int32), (), rfl, ⟨rfl, (by decide)⟩, by rw [ht]; exact hP9, va_K.moved hW.alike hK9, hD9⟩, hS.F ht⟩) hS.2.2 (zat zrX12_undo_0_ok 12 rfl)
noncomputable def zrX12_mark_0 : List ZR := zc 0 true (.aload_n 0) 1 (zc 1 true (.iconst 0) 1 (zc 2 true (.putfield 36) 3 (zc 5 true (.aload_n 0) 1 (zc 6 true (.getfield 299) 3 (zc 9 true (.ifnonnull 9) 3 (zc 12 false (.nop) 6 (zc 18 true (.aload_n 0) 1 (zc 19 true (.getfield 304) 3 (zc 22 true (.iconst 3) 1 (zc 23 true (.if_icmp .ne 9) 3 (zc 26 true (.aload_n 0) 1 (zc 27 true (.iconst 3) 1 (zc 28 true (.invokevirtual 42) 3 (zc 31 true (.ireturn) 1 (zc 32 true (.iconst 0) 1 (zc 33 true (.istore_n 1) 1 (zc 34 true (.iload_n 1) 1 (zc 35 true (.bipush 26) 2 (zc 37 true (.if_icmp .ge 29) 3 (zc 40 true (.aload_n 0) 1 (zc 41 true (.getfield 27) 3 (zc 44 true (.bipush 26) 2 (zc 46 true (.aload_n 0) 1 (zc 47 true (.getfield 304) 3 (zc 50 true (.imul) 1 (zc 51 true (.iload_n 1) 1 (zc 52 true (.iadd) 1 (zc 53 true (.aload_n 0) 1 (zc 54 true (.getfield 17) 3 (zc 57 true (.iload_n 1) 1 (zc 58 true (.iaload) 1 (zc 59 true (.iastore) 1 (zc 60 true (.iinc 1 1) 3 (zc 63 true (.goto (-29)) 3 (zc 66 true (.aload_n 0) 1 (zc 67 true (.dup) 1 (zc 68 true (.getfield 304) 3 (zc 71 true (.iconst 1) 1 (zc 72 true (.iadd) 1 (zc 73 true (.putfield 304) 3 (zc 76 true (.aload_n 0) 1 (zc 77 true (.aload_n 0) 1 (zc 78 true (.getfield 304) 3 (zc 81 true (.iconst 1) 1 (zc 82 true (.isub) 1 (zc 83 true (.invokevirtual 46) 3 (zc 86 true (.ireturn) 1 ([]))))))))))))))))))))))))))))))))))))))))))))))))
theorem zrX12_mark_0_ok : zck 0 ((zby cX12_mark).drop 0) zrX12_mark_0 = true := by decide +kernel
def vfX12_mark : List Cond := List.cons (.code yX12_mark cX12_mark 2 (some .int)) (apW [.fieldLink RX12 36 "HookPierModel" "thrown" "I", .fieldLink RX12 299 "HookPierModel" "pier" "LHookPierModel$Pier;", .fieldLink RX12 304 "HookPierModel" "marks" "I", .methodLink RX12 46 yX12_good, .instanceMethod yX12_good, .selects RX12 yX12_good yX12_good, .initialized RX12, .fieldLink RX12 27 "HookPierModel" "kept" "[I", .fieldLink RX12 17 "HookPierModel" "v" "[I", .methodLink RX12 42 yX12_refused, .instanceMethod yX12_refused, .selects RX12 yX12_refused yX12_refused] (apW wsX120 (apW vfX12_good (vfX12_refused))))
theorem ifX12_mark_X12 : ∀ w ∈ wsX120, w ∈ vfX12_mark := fun _ h => (List.mem_cons_of_mem _ (List.mem_append_right _ (List.mem_append_left _ h)))
theorem qfX12_mark : Good vfX12_mark := gd_cons (by decide +kernel) (gd_app (gd_dec (by decide +kernel) : Good [.fieldLink RX12 36 "HookPierModel" "thrown" "I", .fieldLink RX12 299 "HookPierModel" "pier" "LHookPierModel$Pier;", .fieldLink RX12 304 "HookPierModel" "marks" "I", .methodLink RX12 46 yX12_good, .instanceMethod yX12_good, .selects RX12 yX12_good yX12_good, .initialized RX12, .fieldLink RX12 27 "HookPierModel" "kept" "[I", .fieldLink RX12 17 "HookPierModel" "v" "[I", .methodLink RX12 42 yX12_refused, .instanceMethod yX12_refused, .selects RX12 yX12_refused yX12_refused]) (gd_app qsX12 (gd_app qfX12_good qfX12_refused)))
theorem gfX12_mark_0 : GoodIn vfX12_mark (wsV RX12 46 RX12 yX12_good vfX12_good) := goodIn_app (goodIn_r [.methodLink RX12 46 yX12_good, .instanceMethod yX12_good, .selects RX12 yX12_good yX12_good, .initialized RX12] [4, 5, 6, 7] rfl (by decide +kernel)) (goodIn_m (fun _ h => (List.mem_cons_of_mem _ (List.mem_append_right _ (List.mem_append_right _ (List.mem_append_left _ h))))) qfX12_good)
theorem gfX12_mark_1 : GoodIn vfX12_mark (wsV RX12 42 RX12 yX12_refused vfX12_refused) := goodIn_app (goodIn_r [.methodLink RX12 42 yX12_refused, .instanceMethod yX12_refused, .selects RX12 yX12_refused yX12_refused, .initialized RX12] [10, 11, 12, 7] rfl (by decide +kernel)) (goodIn_m (fun _ h => (List.mem_cons_of_mem _ (List.mem_append_right _ (List.mem_append_right _ (List.mem_append_right _ h))))) qfX12_refused)
set_option maxHeartbeats 2000000 in
set_option maxRecDepth 100000 in
theorem kfX12_mark (l : Launch) (dC : Nat → ClassId) (dI : Nat → Nat → Nat) (a0 : Nat) (a1 : Nat) (a2 : Nat) (a3 : Nat) (m_t : TX12_t) (m_v : TX12_v) (m_h : TX12_h) (a7 : Nat) (g8 : Value) (g9 : Value) (g10 : Value) (g11 : Value) (g12 : Value) (g13 : Value) (g14 : Value) (g15 : Value) (g16 : Value) (g17 : Value) (g18 : Value) (g19 : Value) (g20 : Value) (g21 : Value) (g22 : Value) (g23 : Value) (g24 : Value) (g25 : Value) (g26 : Value) (g27 : Value) (g28 : Value) (cB29 : ClassId) (cB30 : ClassId) (cB31 : ClassId) (sz : Nat) (out : (Int32 × TX12_t × TX12_h)) (h : f_X12_mark m_t m_v m_h = some out) : KCi l yX12_mark vfX12_mark ({ frames := 1, cells := 0, slots := 0, locals := 21 }) (dC, dI) [.ref a0] sz ([(a0, .inr (9, [.int m_t.1, .int m_t.2.1, .int m_t.2.2, .ref a7, g8, g9, g10, g11, g12, g13, g14, g15, g16, g17, g18, .ref a1, g19, .ref a2, .ref a3, .int m_h.2.2.1, .int m_h.2.2.2, g20, g21, g22, g23, g24, g25, g26, g27, g28])), (a1, .inl (cB29, 26, .inl m_v)), (a2, .inl (cB30, 416, .inl m_h.1)), (a3, .inl (cB31, 78, .inl m_h.2.1))]) ((cB29, .int) :: (cB30, .int) :: (cB31, .int) :: []) (fun (r : Int32) _ => r = out.1) ([(a0, .inr (9, [.int out.2.1.1, .int out.2.1.2.1, .int out.2.1.2.2, .ref a7, g8, g9, g10, g11, g12, g13, g14, g15, g16, g17, g18, .ref a1, g19, .ref a2, .ref a3, .int out.2.2.2.2.1, .int out.2.2.2.2.2, g20, g21, g22, g23, g24, g25, g26, g27, g28])), (a1, .inl (cB29, 26, .inl m_v)), (a2, .inl (cB30, 416, .inl out.2.2.1)), (a3, .inl (cB31, 78, .inl out.2.2.2.1))]) 0 0 := by
  refine Met.ofW (cc := cX12_mark) (maxL := 2) (ret := (some .int)) (by decide) rfl ?_
  intro p e s m args below meth c s₁ B0 hml hv
  obtain ⟨rfl, hsz, hP, hK, hD0, hN⟩ := hv
  have hx := B0.exec
  have hb := B0.bytes
  have hr := B0.returns
  have hts := atoms_spec (ws := vfX12_mark) B0.pre
  have hown : s.vm.findClass RX12 = some m.cls := findClass_of_methodNamed B0.named
  have hlocks := B0.notSynchronized
  subst hsz
  have hD := hD0.self (sz := s.heap.size)
  generalize hAe : va_A ([(a0, .inr (9, [.int m_t.1, .int m_t.2.1, .int m_t.2.2, .ref a7, g8, g9, g10, g11, g12, g13, g14, g15, g16, g17, g18, .ref a1, g19, .ref a2, .ref a3, .int m_h.2.2.1, .int m_h.2.2.2, g20, g21, g22, g23, g24, g25, g26, g27, g28])), (a1, .inl (cB29, 26, .inl m_v)), (a2, .inl (cB30, 416, .inl m_h.1)), (a3, .inl (cB31, 78, .inl m_h.2.1))]) s.heap.size = A at hD ⊢
  have hA : ∀ q : Nat, s.heap.size ≤ q → A q := fun q h => by rw [← hAe]; exact Or.inr h
  have hS : va_S A s.heap s.heap [] := va_S.rf
  have hP : va_P (dC, dI) vwCl ([(a0, .inr (9, [.int m_t.1, .int m_t.2.1, .int m_t.2.2, .ref a7, g8, g9, g10, g11, g12, g13, g14, g15, g16, g17, g18, .ref a1, g19, .ref a2, .ref a3, .int m_h.2.2.1, .int m_h.2.2.2, g20, g21, g22, g23, g24, g25, g26, g27, g28])), (a1, .inl (cB29, 26, .inl m_v)), (a2, .inl (cB30, 416, .inl m_h.1)), (a3, .inl (cB31, 78, .inl m_h.2.1))]) s.heap := hP
  have hl := lv_entry ([.ref a0]) (n := 2) (Nat.le_of_ble_eq_true rfl)
  rw [lg_entry_eq]
  generalize (lg_sl ([.ref a0]) ++ List.replicate (2 - (lg_sl ([.ref a0])).length) Slot.unset).toArray = ls at hl ⊢
  have hl : lv_has ls 2 [(0, .ref a0)] := hl
  refine W_q (fun QQ hQQ => ?_)
  rw [f_X12_mark] at h
  refine lv_aload_n hx hb (zat zrX12_mark_0_ok 0 rfl) rfl (lv_at hl 0 rfl) ?_
  refine lv_iconst (v := 0) hx hb (zat zrX12_mark_0_ok 1 rfl) (by decide) ?_
  refine va_put (D := (dC, dI)) (ci := 9) (v := .int 0) (ty := .int) (C := RX12) (T := TX12) (N := 30) hx hb hts ifX12_mark_X12 tyX12 tyX12_ok nmX12 hown hK hP hD hS 0 rfl rfl 0 (by decide) (hts (.fieldLink RX12 36 "HookPierModel" "thrown" "I") (List.mem_of_getElem? (i := 1) rfl)) (fun _ h9 => h9) rfl (by decide +kernel) rfl rfl (Nat.le_of_ble_eq_true rfl) (zat zrX12_mark_0_ok 2 rfl) (fun H locs hP hD hS => ?_)
  obtain ⟨hP, hD⟩ := pd_mk ([(a0, .inr (9, [.int 0, .int m_t.2.1, .int m_t.2.2, .ref a7, g8, g9, g10, g11, g12, g13, g14, g15, g16, g17, g18, .ref a1, g19, .ref a2, .ref a3, .int m_h.2.2.1, .int m_h.2.2.2, g20, g21, g22, g23, g24, g25, g26, g27, g28])), (a1, .inl (cB29, 26, .inl m_v)), (a2, .inl (cB30, 416, .inl m_h.1)), (a3, .inl (cB31, 78, .inl m_h.2.1))]) hP hD
  refine lv_aload_n hx hb (zat zrX12_mark_0_ok 3 rfl) rfl (lv_at hl 0 rfl) ?_
  refine va_get (D := (dC, dI)) (ci := 9) (v := .ref a7) (C := RX12) (T := TX12) (N := 30) hx hb hts ifX12_mark_X12 hown hK hP 0 rfl rfl 3 (by decide) (hts (.fieldLink RX12 299 "HookPierModel" "pier" "LHookPierModel$Pier;") (List.mem_of_getElem? (i := 2) rfl)) (fun _ h9 => h9) rfl (zat zrX12_mark_0_ok 4 rfl) ?_
  refine lv_ifnonnull (tgt := 18) hx hb (zat zrX12_mark_0_ok 5 rfl) (by decide) ?_
  refine lv_aload_n hx hb (zat zrX12_mark_0_ok 7 rfl) rfl (lv_at hl 0 rfl) ?_
  refine va_get (D := (dC, dI)) (ci := 9) (v := .int m_h.2.2.2) (C := RX12) (T := TX12) (N := 30) hx hb hts ifX12_mark_X12 hown hK hP 0 rfl rfl 20 (by decide) (hts (.fieldLink RX12 304 "HookPierModel" "marks" "I") (List.mem_of_getElem? (i := 3) rfl)) (fun _ h9 => h9) rfl (zat zrX12_mark_0_ok 8 rfl) ?_
  refine lv_iconst (v := 3) hx hb (zat zrX12_mark_0_ok 9 rfl) (by decide) ?_
  refine lv_icmp_ne (tgt := 32) hx hb (zat zrX12_mark_0_ok 10 rfl) (by decide) (fun c23 => ?_) (fun c23 => ?_)
  · have h := (if_neg c23).symm.trans h
    refine lv_iconst (v := 0) hx hb (zat zrX12_mark_0_ok 15 rfl) (by decide) ?_
    refine lv_istore_n (lv' := [(1, .int 0), (0, .ref a0)]) hx hb (zat zrX12_mark_0_ok 16 rfl) rfl hl (by decide) rfl (fun ls hl => ?_)
    have L34 : ∀ (n34 : Nat) (v34_l1 : Int32) (v34_m_h : TX12_h) (H : Heap) (locs : List Loc) (ls : Array Slot), f_X12_mark_L34 m_t m_v n34 v34_l1 v34_m_h = some out → va_P (dC, dI) vwCl ([(a0, .inr (9, [.int 0, .int m_t.2.1, .int m_t.2.2, .ref a7, g8, g9, g10, g11, g12, g13, g14, g15, g16, g17, g18, .ref a1, g19, .ref a2, .ref a3, .int v34_m_h.2.2.1, .int v34_m_h.2.2.2, g20, g21, g22, g23, g24, g25, g26, g27, g28])), (a1, .inl (cB29, 26, .inl m_v)), (a2, .inl (cB30, 416, .inl v34_m_h.1)), (a3, .inl (cB31, 78, .inl v34_m_h.2.1))]) H → va_D A ([(a0, .inr (9, [.int 0, .int m_t.2.1, .int m_t.2.2, .ref a7, g8, g9, g10, g11, g12, g13, g14, g15, g16, g17, g18, .ref a1, g19, .ref a2, .ref a3, .int v34_m_h.2.2.1, .int v34_m_h.2.2.2, g20, g21, g22, g23, g24, g25, g26, g27, g28])), (a1, .inl (cB29, 26, .inl m_v)), (a2, .inl (cB30, 416, .inl v34_m_h.1)), (a3, .inl (cB31, 78, .inl v34_m_h.2.1))]) → va_S A s.heap H locs → lv_has ls 2 [(1, .int v34_l1), (0, .ref a0)] → W p l e (headSpec vfX12_mark { frames := 1, cells := 0, slots := 0, locals := 21 }).room s m ([.ref a0]).toArray below meth c H locs 0 0 QQ (F0 m 34 ls []) := by
      intro n34
      induction n34 with
      | zero =>
        intro v34_l1 v34_m_h H locs ls h  _ _ _ _
        rw [f_X12_mark_L34] at h
        cases h
      | succ n34 ih34 =>
        intro v34_l1 v34_m_h H locs ls h  hP hD hS hl
        rw [f_X12_mark_L34] at h
        refine lv_iload_n hx hb (zat zrX12_mark_0_ok 17 rfl) rfl (lv_at hl 0 rfl) ?_
        refine lv_bipush (v := 26) hx hb (zat zrX12_mark_0_ok 18 rfl) (by decide) ?_
        refine lv_icmp_ge (tgt := 66) hx hb (zat zrX12_mark_0_ok 19 rfl) (by decide) (fun c37 => ?_) (fun c37 => ?_)
        · have h := (if_pos c37).symm.trans h
          refine lv_aload_n hx hb (zat zrX12_mark_0_ok 35 rfl) rfl (lv_at hl 1 rfl) ?_
          refine lv_dup hx hb (zat zrX12_mark_0_ok 36 rfl) rfl ?_
          refine va_get (D := (dC, dI)) (ci := 9) (v := .int v34_m_h.2.2.2) (C := RX12) (T := TX12) (N := 30) hx hb hts ifX12_mark_X12 hown hK hP 0 rfl rfl 20 (by decide) (hts (.fieldLink RX12 304 "HookPierModel" "marks" "I") (List.mem_of_getElem? (i := 3) rfl)) (fun _ h9 => h9) rfl (zat zrX12_mark_0_ok 37 rfl) ?_
          refine lv_iconst (v := 1) hx hb (zat zrX12_mark_0_ok 38 rfl) (by decide) ?_
          refine lv_iadd hx hb (zat zrX12_mark_0_ok 39 rfl) ?_
          refine va_put (D := (dC, dI)) (ci := 9) (v := .int (v34_m_h.2.2.2 + (1 : Int32))) (ty := .int) (C := RX12) (T := TX12) (N := 30) hx hb hts ifX12_mark_X12 tyX12 tyX12_ok nmX12 hown hK hP hD hS 0 rfl rfl 20 (by decide) (hts (.fieldLink RX12 304 "HookPierModel" "marks" "I") (List.mem_of_getElem? (i := 3) rfl)) (fun _ h9 => h9) rfl (by decide +kernel) rfl rfl (Nat.le_of_ble_eq_true rfl) (zat zrX12_mark_0_ok 40 rfl) (fun H locs hP hD hS => ?_)
          obtain ⟨hP, hD⟩ := pd_mk ([(a0, .inr (9, [.int 0, .int m_t.2.1, .int m_t.2.2, .ref a7, g8, g9, g10, g11, g12, g13, g14, g15, g16, g17, g18, .ref a1, g19, .ref a2, .ref a3, .int v34_m_h.2.2.1, .int (v34_m_h.2.2.2 + (1 : Int32)), g20, g21, g22, g23, g24, g25, g26, g27, g28])), (a1, .inl (cB29, 26, .inl m_v)), (a2, .inl (cB30, 416, .inl v34_m_h.1)), (a3, .inl (cB31, 78, .inl v34_m_h.2.1))]) hP hD
          refine lv_aload_n hx hb (zat zrX12_mark_0_ok 41 rfl) rfl (lv_at hl 1 rfl) ?_
          refine lv_aload_n hx hb (zat zrX12_mark_0_ok 42 rfl) rfl (lv_at hl 1 rfl) ?_
          refine va_get (D := (dC, dI)) (ci := 9) (v := .int (v34_m_h.2.2.2 + (1 : Int32))) (C := RX12) (T := TX12) (N := 30) hx hb hts ifX12_mark_X12 hown hK hP 0 rfl rfl 20 (by decide) (hts (.fieldLink RX12 304 "HookPierModel" "marks" "I") (List.mem_of_getElem? (i := 3) rfl)) (fun _ h9 => h9) rfl (zat zrX12_mark_0_ok 43 rfl) ?_
          refine lv_iconst (v := 1) hx hb (zat zrX12_mark_0_ok 44 rfl) (by decide) ?_
          refine lv_isub hx hb (zat zrX12_mark_0_ok 45 rfl) ?_
          obtain ⟨o83, eo83⟩ : ∃ o, o = f_X12_good ((v34_m_h.2.2.2 + (1 : Int32)) - (1 : Int32)) ((0 : Int32), m_t.2) := ⟨_, rfl⟩
          have h := nm_of h o83 eo83
          refine ck_i (wc := ([(a0, .inr (9, [.int 0, .int m_t.2.1, .int m_t.2.2, .ref a7, g8, g9, g10, g11, g12, g13, g14, g15, g16, g17, g18, .ref a1, g19, .ref a2, .ref a3, .int v34_m_h.2.2.1, .int (v34_m_h.2.2.2 + (1 : Int32)), g20, g21, g22, g23, g24, g25, g26, g27, g28]))])) (wr := ([(a1, .inl (cB29, 26, .inl m_v)), (a2, .inl (cB30, 416, .inl v34_m_h.1)), (a3, .inl (cB31, 78, .inl v34_m_h.2.1))])) hP hD hK hS hA [0] [1, 2, 3] rfl rfl (by decide) (by decide) (by decide) (fun hPc hDc => (va_runV (As := [.int ((v34_m_h.2.2.2 + (1 : Int32)) - (1 : Int32))]) (rest := []) ⟨hx, hb, hml, hown, hts⟩ (kfX12_good l dC dI a0 ((v34_m_h.2.2.2 + (1 : Int32)) - (1 : Int32)) ((0 : Int32), m_t.2) (.ref a7) (g8) (g9) (g10) (g11) (g12) (g13) (g14) (g15) (g16) (g17) (g18) (.ref a1) (g19) (.ref a2) (.ref a3) (.int v34_m_h.2.2.1) (.int (v34_m_h.2.2.2 + (1 : Int32))) (g20) (g21) (g22) (g23) (g24) (g25) (g26) (g27) (g28) H.size o83 eo83.symm) (cwV 1 hts gfX12_mark_0 rfl rfl rfl (by decide +kernel) ⟨(Nat.le_of_ble_eq_true rfl), (Nat.le_of_ble_eq_true rfl)⟩) (PV hPc (hK.sub (tys' := ([])) [] rfl) hDc hN 0 rfl rfl) rfl rfl hl.1 rfl (lv_room (Nat.le_of_ble_eq_true rfl)) (zat zrX12_mark_0_ok 46 rfl) ⟨(Nat.le_of_ble_eq_true rfl), (Nat.le_of_ble_eq_true rfl)⟩)) (fun r83 _ H locs hw hP hD _ hS => ?_)
          obtain rfl := hw
          obtain ⟨hP, hD⟩ := pd_mk ([(a1, .inl (cB29, 26, .inl m_v)), (a2, .inl (cB30, 416, .inl v34_m_h.1)), (a3, .inl (cB31, 78, .inl v34_m_h.2.1)), (a0, .inr (9, [.int o83.2.1, .int o83.2.2.1, .int o83.2.2.2, .ref a7, g8, g9, g10, g11, g12, g13, g14, g15, g16, g17, g18, .ref a1, g19, .ref a2, .ref a3, .int v34_m_h.2.2.1, .int (v34_m_h.2.2.2 + (1 : Int32)), g20, g21, g22, g23, g24, g25, g26, g27, g28]))]) hP hD
          obtain rfl := Option.some.inj h
          obtain ⟨hP9, hD9⟩ := pd_sub ([(a0, .inr (9, [.int o83.2.1, .int o83.2.2.1, .int o83.2.2.2, .ref a7, g8, g9, g10, g11, g12, g13, g14, g15, g16, g17, g18, .ref a1, g19, .ref a2, .ref a3, .int v34_m_h.2.2.1, .int (v34_m_h.2.2.2 + (1 : Int32)), g20, g21, g22, g23, g24, g25, g26, g27, g28])), (a1, .inl (cB29, 26, .inl m_v)), (a2, .inl (cB30, 416, .inl v34_m_h.1)), (a3, .inl (cB31, 78, .inl v34_m_h.2.1))]) [3, 0, 1, 2] hP hD (by decide) rfl
          have hK9 := hK.sub (tys' := []) [] rfl
          rw [hQQ]
          exact W.iret (v := o83.1) hx hb hr (fun t ht hW => ⟨⟨o83.1, (), rfl, rfl, by rw [ht]; exact hP9, va_K.moved hW.alike hK9, hD9⟩, hS.F ht⟩) hS.2.2 (zat zrX12_mark_0_ok 47 rfl)
        · have h := (if_neg c37).symm.trans h
          refine lv_aload_n hx hb (zat zrX12_mark_0_ok 20 rfl) rfl (lv_at hl 1 rfl) ?_
          refine va_get (D := (dC, dI)) (ci := 9) (v := .ref a3) (C := RX12) (T := TX12) (N := 30) hx hb hts ifX12_mark_X12 hown hK hP 0 rfl rfl 18 (by decide) (hts (.fieldLink RX12 27 "HookPierModel" "kept" "[I") (List.mem_of_getElem? (i := 8) rfl)) (fun _ h9 => h9) rfl (zat zrX12_mark_0_ok 21 rfl) ?_
          refine lv_bipush (v := 26) hx hb (zat zrX12_mark_0_ok 22 rfl) (by decide) ?_
          refine lv_aload_n hx hb (zat zrX12_mark_0_ok 23 rfl) rfl (lv_at hl 1 rfl) ?_
          refine va_get (D := (dC, dI)) (ci := 9) (v := .int v34_m_h.2.2.2) (C := RX12) (T := TX12) (N := 30) hx hb hts ifX12_mark_X12 hown hK hP 0 rfl rfl 20 (by decide) (hts (.fieldLink RX12 304 "HookPierModel" "marks" "I") (List.mem_of_getElem? (i := 3) rfl)) (fun _ h9 => h9) rfl (zat zrX12_mark_0_ok 24 rfl) ?_
          refine lv_imul hx hb (zat zrX12_mark_0_ok 25 rfl) ?_
          refine lv_iload_n hx hb (zat zrX12_mark_0_ok 26 rfl) rfl (lv_at hl 0 rfl) ?_
          refine lv_iadd hx hb (zat zrX12_mark_0_ok 27 rfl) ?_
          refine lv_aload_n hx hb (zat zrX12_mark_0_ok 28 rfl) rfl (lv_at hl 1 rfl) ?_
          refine va_get (D := (dC, dI)) (ci := 9) (v := .ref a1) (C := RX12) (T := TX12) (N := 30) hx hb hts ifX12_mark_X12 hown hK hP 0 rfl rfl 15 (by decide) (hts (.fieldLink RX12 17 "HookPierModel" "v" "[I") (List.mem_of_getElem? (i := 9) rfl)) (fun _ h9 => h9) rfl (zat zrX12_mark_0_ok 29 rfl) ?_
          refine lv_iload_n hx hb (zat zrX12_mark_0_ok 30 rfl) rfl (lv_at hl 0 rfl) ?_
          obtain ⟨hg58, h⟩ := gA_of h
          refine va_iald hx hb hK hP 1 0 rfl rfl hg58 (zat zrX12_mark_0_ok 31 rfl) ?_
          obtain ⟨hg59, h⟩ := gA_of h
          refine va_iast hx hb hK hP hD hS 3 2 rfl rfl hg59 (zat zrX12_mark_0_ok 32 rfl) (fun H locs hP hD hS => ?_)
          obtain ⟨hP, hD⟩ := pd_mk ([(a0, .inr (9, [.int 0, .int m_t.2.1, .int m_t.2.2, .ref a7, g8, g9, g10, g11, g12, g13, g14, g15, g16, g17, g18, .ref a1, g19, .ref a2, .ref a3, .int v34_m_h.2.2.1, .int v34_m_h.2.2.2, g20, g21, g22, g23, g24, g25, g26, g27, g28])), (a1, .inl (cB29, 26, .inl m_v)), (a2, .inl (cB30, 416, .inl v34_m_h.1)), (a3, .inl (cB31, 78, .inl (upd v34_m_h.2.1 ((((26 : Int32) * v34_m_h.2.2.2) + v34_l1)).toNatClampNeg (m_v (v34_l1).toNatClampNeg))))]) hP hD
          refine lv_iinc (v := (v34_l1 + (1 : Int32))) (lv' := [(1, .int (v34_l1 + (1 : Int32))), (0, .ref a0)]) hx hb (zat zrX12_mark_0_ok 33 rfl) hl (k := 0) rfl rfl (by decide) rfl (fun ls hl => ?_)
          refine lv_goto (tgt := 34) hx hb (zat zrX12_mark_0_ok 34 rfl) (by decide) ?_
          exact ih34 (v34_l1 + (1 : Int32)) (v34_m_h.1, (upd v34_m_h.2.1 ((((26 : Int32) * v34_m_h.2.2.2) + v34_l1)).toNatClampNeg (m_v (v34_l1).toNatClampNeg)), v34_m_h.2.2) H _ ls h  hP hD hS (lv_sub hl [0, 1] rfl)
    exact L34 FU (0 : Int32) m_h H _ ls h  hP hD hS (lv_sub hl [0, 1] rfl)
  · have h := (if_pos c23).symm.trans h
    refine lv_aload_n hx hb (zat zrX12_mark_0_ok 11 rfl) rfl (lv_at hl 0 rfl) ?_
    refine lv_iconst (v := 3) hx hb (zat zrX12_mark_0_ok 12 rfl) (by decide) ?_
    obtain ⟨o28, eo28⟩ : ∃ o, o = f_X12_refused (3 : Int32) ((0 : Int32), m_t.2) := ⟨_, rfl⟩
    have h := nm_of h o28 eo28
    refine ck_i (wc := ([(a0, .inr (9, [.int 0, .int m_t.2.1, .int m_t.2.2, .ref a7, g8, g9, g10, g11, g12, g13, g14, g15, g16, g17, g18, .ref a1, g19, .ref a2, .ref a3, .int m_h.2.2.1, .int m_h.2.2.2, g20, g21, g22, g23, g24, g25, g26, g27, g28]))])) (wr := ([(a1, .inl (cB29, 26, .inl m_v)), (a2, .inl (cB30, 416, .inl m_h.1)), (a3, .inl (cB31, 78, .inl m_h.2.1))])) hP hD hK hS hA [0] [1, 2, 3] rfl rfl (by decide) (by decide) (by decide) (fun hPc hDc => (va_runV (As := [.int 3]) (rest := []) ⟨hx, hb, hml, hown, hts⟩ (kfX12_refused l dC dI a0 (3 : Int32) ((0 : Int32), m_t.2) (.ref a7) (g8) (g9) (g10) (g11) (g12) (g13) (g14) (g15) (g16) (g17) (g18) (.ref a1) (g19) (.ref a2) (.ref a3) (.int m_h.2.2.1) (.int m_h.2.2.2) (g20) (g21) (g22) (g23) (g24) (g25) (g26) (g27) (g28) H.size o28 eo28.symm) (cwV 1 hts gfX12_mark_1 rfl rfl rfl (by decide +kernel) ⟨(Nat.le_of_ble_eq_true rfl), (Nat.le_of_ble_eq_true rfl)⟩) (PV hPc (hK.sub (tys' := ([])) [] rfl) hDc hN 0 rfl rfl) rfl rfl hl.1 rfl (lv_room (Nat.le_of_ble_eq_true rfl)) (zat zrX12_mark_0_ok 13 rfl) ⟨(Nat.le_of_ble_eq_true rfl), (Nat.le_of_ble_eq_true rfl)⟩)) (fun r28 _ H locs hw hP hD _ hS => ?_)
    obtain rfl := hw
    obtain ⟨hP, hD⟩ := pd_mk ([(a1, .inl (cB29, 26, .inl m_v)), (a2, .inl (cB30, 416, .inl m_h.1)), (a3, .inl (cB31, 78, .inl m_h.2.1)), (a0, .inr (9, [.int o28.1, .int o28.2.1, .int o28.2.2, .ref a7, g8, g9, g10, g11, g12, g13, g14, g15, g16, g17, g18, .ref a1, g19, .ref a2, .ref a3, .int m_h.2.2.1, .int m_h.2.2.2, g20, g21, g22, g23, g24, g25, g26, g27, g28]))]) hP hD
    obtain rfl := Option.some.inj h
    obtain ⟨hP9, hD9⟩ := pd_sub ([(a0, .inr (9, [.int o28.1, .int o28.2.1, .int o28.2.2, .ref a7, g8, g9, g10, g11, g12, g13, g14, g15, g16, g17, g18, .ref a1, g19, .ref a2, .ref a3, .int m_h.2.2.1, .int m_h.2.2.2, g20, g21, g22, g23, g24, g25, g26, g27, g28])), (a1, .inl (cB29, 26, .inl m_v)), (a2, .inl (cB30, 416, .inl m_h.1)), (a3, .inl (cB31, 78, .inl m_h.2.1))]) [3, 0, 1, 2] hP hD (by decide) rfl
    have hK9 := hK.sub (tys' := []) [] rfl
    rw [hQQ]
    exact W.iret (v := (-1 : Int32)) hx hb hr (fun t ht hW => ⟨⟨(-1 : Int32), (), rfl, rfl, by rw [ht]; exact hP9, va_K.moved hW.alike hK9, hD9⟩, hS.F ht⟩) hS.2.2 (zat zrX12_mark_0_ok 14 rfl)
noncomputable def zrX12_back_0 : List ZR := zc 0 true (.aload_n 0) 1 (zc 1 true (.iconst 0) 1 (zc 2 true (.putfield 36) 3 (zc 5 true (.aload_n 0) 1 (zc 6 true (.getfield 299) 3 (zc 9 true (.ifnull 15) 3 (zc 12 true (.iload_n 1) 1 (zc 13 true (.ifCond .lt 11) 3 (zc 16 true (.iload_n 1) 1 (zc 17 true (.aload_n 0) 1 (zc 18 true (.getfield 304) 3 (zc 21 true (.if_icmp .lt 9) 3 (zc 24 true (.aload_n 0) 1 (zc 25 true (.iconst 1) 1 (zc 26 true (.invokevirtual 498) 3 (zc 29 true (.ireturn) 1 (zc 30 true (.iconst 0) 1 (zc 31 true (.istore_n 2) 1 (zc 32 true (.iload_n 2) 1 (zc 33 true (.bipush 26) 2 (zc 35 true (.if_icmp .ge 26) 3 (zc 38 true (.aload_n 0) 1 (zc 39 true (.getfield 17) 3 (zc 42 true (.iload_n 2) 1 (zc 43 true (.aload_n 0) 1 (zc 44 true (.getfield 27) 3 (zc 47 true (.bipush 26) 2 (zc 49 true (.iload_n 1) 1 (zc 50 true (.imul) 1 (zc 51 true (.iload_n 2) 1 (zc 52 true (.iadd) 1 (zc 53 true (.iaload) 1 (zc 54 true (.iastore) 1 (zc 55 true (.iinc 2 1) 3 (zc 58 true (.goto (-26)) 3 (zc 61 true (.aload_n 0) 1 (zc 62 true (.iconst 0) 1 (zc 63 true (.putfield 301) 3 (zc 66 true (.aload_n 0) 1 (zc 67 true (.invokevirtual 504) 3 (zc 70 true (.ireturn) 1 ([])))))))))))))))))))))))))))))))))))))))))
theorem zrX12_back_0_ok : zck 0 ((zby cX12_back).drop 0) zrX12_back_0 = true := by decide +kernel
def vfX12_back : List Cond := List.cons (.code yX12_back cX12_back 3 (some .boolean)) (apW [.fieldLink RX12 36 "HookPierModel" "thrown" "I", .fieldLink RX12 299 "HookPierModel" "pier" "LHookPierModel$Pier;", .methodLink RX12 498 yX12_denied, .instanceMethod yX12_denied, .selects RX12 yX12_denied yX12_denied, .initialized RX12, .fieldLink RX12 304 "HookPierModel" "marks" "I", .fieldLink RX12 301 "HookPierModel" "acts" "I", .methodLink RX12 504 yX12_granted, .instanceMethod yX12_granted, .selects RX12 yX12_granted yX12_granted, .fieldLink RX12 17 "HookPierModel" "v" "[I", .fieldLink RX12 27 "HookPierModel" "kept" "[I"] (apW wsX120 (apW vfX12_denied (vfX12_granted))))
theorem ifX12_back_X12 : ∀ w ∈ wsX120, w ∈ vfX12_back := fun _ h => (List.mem_cons_of_mem _ (List.mem_append_right _ (List.mem_append_left _ h)))
theorem qfX12_back : Good vfX12_back := gd_cons (by decide +kernel) (gd_app (gd_dec (by decide +kernel) : Good [.fieldLink RX12 36 "HookPierModel" "thrown" "I", .fieldLink RX12 299 "HookPierModel" "pier" "LHookPierModel$Pier;", .methodLink RX12 498 yX12_denied, .instanceMethod yX12_denied, .selects RX12 yX12_denied yX12_denied, .initialized RX12, .fieldLink RX12 304 "HookPierModel" "marks" "I", .fieldLink RX12 301 "HookPierModel" "acts" "I", .methodLink RX12 504 yX12_granted, .instanceMethod yX12_granted, .selects RX12 yX12_granted yX12_granted, .fieldLink RX12 17 "HookPierModel" "v" "[I", .fieldLink RX12 27 "HookPierModel" "kept" "[I"]) (gd_app qsX12 (gd_app qfX12_denied qfX12_granted)))
theorem gfX12_back_0 : GoodIn vfX12_back (wsV RX12 498 RX12 yX12_denied vfX12_denied) := goodIn_app (goodIn_r [.methodLink RX12 498 yX12_denied, .instanceMethod yX12_denied, .selects RX12 yX12_denied yX12_denied, .initialized RX12] [3, 4, 5, 6] rfl (by decide +kernel)) (goodIn_m (fun _ h => (List.mem_cons_of_mem _ (List.mem_append_right _ (List.mem_append_right _ (List.mem_append_left _ h))))) qfX12_denied)
theorem gfX12_back_1 : GoodIn vfX12_back (wsV RX12 504 RX12 yX12_granted vfX12_granted) := goodIn_app (goodIn_r [.methodLink RX12 504 yX12_granted, .instanceMethod yX12_granted, .selects RX12 yX12_granted yX12_granted, .initialized RX12] [9, 10, 11, 6] rfl (by decide +kernel)) (goodIn_m (fun _ h => (List.mem_cons_of_mem _ (List.mem_append_right _ (List.mem_append_right _ (List.mem_append_right _ h))))) qfX12_granted)
set_option maxHeartbeats 2000000 in
set_option maxRecDepth 100000 in
theorem kfX12_back (l : Launch) (dC : Nat → ClassId) (dI : Nat → Nat → Nat) (a0 : Nat) (k1 : Int32) (a2 : Nat) (a3 : Nat) (a4 : Nat) (m_t : TX12_t) (m_v : TX12_v) (m_h : TX12_h) (a8 : Nat) (g9 : Value) (g10 : Value) (g11 : Value) (g12 : Value) (g13 : Value) (g14 : Value) (g15 : Value) (g16 : Value) (g17 : Value) (g18 : Value) (g19 : Value) (g20 : Value) (g21 : Value) (g22 : Value) (g23 : Value) (g24 : Value) (g25 : Value) (g26 : Value) (g27 : Value) (g28 : Value) (g29 : Value) (cB30 : ClassId) (cB31 : ClassId) (cB32 : ClassId) (sz : Nat) (out : (Int32 × TX12_t × TX12_v × TX12_h)) (h : f_X12_back k1 m_t m_v m_h = some out) : KCi l yX12_back vfX12_back ({ frames := 2, cells := 0, slots := 0, locals := 42 }) (dC, dI) [.ref a0, .int k1] sz ([(a0, .inr (9, [.int m_t.1, .int m_t.2.1, .int m_t.2.2, .ref a8, g9, g10, g11, g12, g13, g14, g15, g16, g17, g18, g19, .ref a2, g20, .ref a3, .ref a4, .int m_h.2.2.1, .int m_h.2.2.2, g21, g22, g23, g24, g25, g26, g27, g28, g29])), (a2, .inl (cB30, 26, .inl m_v)), (a3, .inl (cB31, 416, .inl m_h.1)), (a4, .inl (cB32, 78, .inl m_h.2.1))]) ((cB30, .int) :: (cB31, .int) :: (cB32, .int) :: []) (fun (r : Int32) _ => r = out.1 ∧ (0 ≤ r.toInt ∧ r.toInt ≤ 1)) ([(a0, .inr (9, [.int out.2.1.1, .int out.2.1.2.1, .int out.2.1.2.2, .ref a8, g9, g10, g11, g12, g13, g14, g15, g16, g17, g18, g19, .ref a2, g20, .ref a3, .ref a4, .int out.2.2.2.2.2.1, .int out.2.2.2.2.2.2, g21, g22, g23, g24, g25, g26, g27, g28, g29])), (a2, .inl (cB30, 26, .inl out.2.2.1)), (a3, .inl (cB31, 416, .inl out.2.2.2.1)), (a4, .inl (cB32, 78, .inl out.2.2.2.2.1))]) 0 0 := by
  refine Met.ofW (cc := cX12_back) (maxL := 3) (ret := (some .boolean)) (by decide) rfl ?_
  intro p e s m args below meth c s₁ B0 hml hv
  obtain ⟨rfl, hsz, hP, hK, hD0, hN⟩ := hv
  have hx := B0.exec
  have hb := B0.bytes
  have hr := B0.returns
  have hts := atoms_spec (ws := vfX12_back) B0.pre
  have hown : s.vm.findClass RX12 = some m.cls := findClass_of_methodNamed B0.named
  have hlocks := B0.notSynchronized
  subst hsz
  have hD := hD0.self (sz := s.heap.size)
  generalize hAe : va_A ([(a0, .inr (9, [.int m_t.1, .int m_t.2.1, .int m_t.2.2, .ref a8, g9, g10, g11, g12, g13, g14, g15, g16, g17, g18, g19, .ref a2, g20, .ref a3, .ref a4, .int m_h.2.2.1, .int m_h.2.2.2, g21, g22, g23, g24, g25, g26, g27, g28, g29])), (a2, .inl (cB30, 26, .inl m_v)), (a3, .inl (cB31, 416, .inl m_h.1)), (a4, .inl (cB32, 78, .inl m_h.2.1))]) s.heap.size = A at hD ⊢
  have hA : ∀ q : Nat, s.heap.size ≤ q → A q := fun q h => by rw [← hAe]; exact Or.inr h
  have hS : va_S A s.heap s.heap [] := va_S.rf
  have hP : va_P (dC, dI) vwCl ([(a0, .inr (9, [.int m_t.1, .int m_t.2.1, .int m_t.2.2, .ref a8, g9, g10, g11, g12, g13, g14, g15, g16, g17, g18, g19, .ref a2, g20, .ref a3, .ref a4, .int m_h.2.2.1, .int m_h.2.2.2, g21, g22, g23, g24, g25, g26, g27, g28, g29])), (a2, .inl (cB30, 26, .inl m_v)), (a3, .inl (cB31, 416, .inl m_h.1)), (a4, .inl (cB32, 78, .inl m_h.2.1))]) s.heap := hP
  have hl := lv_entry ([.ref a0, .int k1]) (n := 3) (Nat.le_of_ble_eq_true rfl)
  rw [lg_entry_eq]
  generalize (lg_sl ([.ref a0, .int k1]) ++ List.replicate (3 - (lg_sl ([.ref a0, .int k1])).length) Slot.unset).toArray = ls at hl ⊢
  have hl : lv_has ls 3 [(0, .ref a0), (1, .int k1)] := hl
  refine W_q (fun QQ hQQ => ?_)
  rw [f_X12_back] at h
  refine lv_aload_n hx hb (zat zrX12_back_0_ok 0 rfl) rfl (lv_at hl 0 rfl) ?_
  refine lv_iconst (v := 0) hx hb (zat zrX12_back_0_ok 1 rfl) (by decide) ?_
  refine va_put (D := (dC, dI)) (ci := 9) (v := .int 0) (ty := .int) (C := RX12) (T := TX12) (N := 30) hx hb hts ifX12_back_X12 tyX12 tyX12_ok nmX12 hown hK hP hD hS 0 rfl rfl 0 (by decide) (hts (.fieldLink RX12 36 "HookPierModel" "thrown" "I") (List.mem_of_getElem? (i := 1) rfl)) (fun _ h9 => h9) rfl (by decide +kernel) rfl rfl (Nat.le_of_ble_eq_true rfl) (zat zrX12_back_0_ok 2 rfl) (fun H locs hP hD hS => ?_)
  obtain ⟨hP, hD⟩ := pd_mk ([(a0, .inr (9, [.int 0, .int m_t.2.1, .int m_t.2.2, .ref a8, g9, g10, g11, g12, g13, g14, g15, g16, g17, g18, g19, .ref a2, g20, .ref a3, .ref a4, .int m_h.2.2.1, .int m_h.2.2.2, g21, g22, g23, g24, g25, g26, g27, g28, g29])), (a2, .inl (cB30, 26, .inl m_v)), (a3, .inl (cB31, 416, .inl m_h.1)), (a4, .inl (cB32, 78, .inl m_h.2.1))]) hP hD
  refine lv_aload_n hx hb (zat zrX12_back_0_ok 3 rfl) rfl (lv_at hl 0 rfl) ?_
  refine va_get (D := (dC, dI)) (ci := 9) (v := .ref a8) (C := RX12) (T := TX12) (N := 30) hx hb hts ifX12_back_X12 hown hK hP 0 rfl rfl 3 (by decide) (hts (.fieldLink RX12 299 "HookPierModel" "pier" "LHookPierModel$Pier;") (List.mem_of_getElem? (i := 2) rfl)) (fun _ h9 => h9) rfl (zat zrX12_back_0_ok 4 rfl) ?_
  have J24 : ∀ (H : Heap) (locs : List Loc) (ls : Array Slot), f_X12_back_J24 m_t m_v m_h = some out → va_P (dC, dI) vwCl ([(a0, .inr (9, [.int 0, .int m_t.2.1, .int m_t.2.2, .ref a8, g9, g10, g11, g12, g13, g14, g15, g16, g17, g18, g19, .ref a2, g20, .ref a3, .ref a4, .int m_h.2.2.1, .int m_h.2.2.2, g21, g22, g23, g24, g25, g26, g27, g28, g29])), (a2, .inl (cB30, 26, .inl m_v)), (a3, .inl (cB31, 416, .inl m_h.1)), (a4, .inl (cB32, 78, .inl m_h.2.1))]) H → va_D A ([(a0, .inr (9, [.int 0, .int m_t.2.1, .int m_t.2.2, .ref a8, g9, g10, g11, g12, g13, g14, g15, g16, g17, g18, g19, .ref a2, g20, .ref a3, .ref a4, .int m_h.2.2.1, .int m_h.2.2.2, g21, g22, g23, g24, g25, g26, g27, g28, g29])), (a2, .inl (cB30, 26, .inl m_v)), (a3, .inl (cB31, 416, .inl m_h.1)), (a4, .inl (cB32, 78, .inl m_h.2.1))]) → va_S A s.heap H locs → lv_has ls 3 [(0, .ref a0)] → W p l e (headSpec vfX12_back { frames := 2, cells := 0, slots := 0, locals := 42 }).room s m ([.ref a0, .int k1]).toArray below meth c H locs 0 0 QQ (F0 m 24 ls []) := by
    intro  H locs ls h  hP hD hS hl
    rw [f_X12_back_J24] at h
    refine lv_aload_n hx hb (zat zrX12_back_0_ok 12 rfl) rfl (lv_at hl 0 rfl) ?_
    refine lv_iconst (v := 1) hx hb (zat zrX12_back_0_ok 13 rfl) (by decide) ?_
    obtain ⟨o26, eo26⟩ : ∃ o, o = f_X12_denied (1 : Int32) ((0 : Int32), m_t.2) := ⟨_, rfl⟩
    have h := nm_of h o26 eo26
    refine ck_i (wc := ([(a0, .inr (9, [.int 0, .int m_t.2.1, .int m_t.2.2, .ref a8, g9, g10, g11, g12, g13, g14, g15, g16, g17, g18, g19, .ref a2, g20, .ref a3, .ref a4, .int m_h.2.2.1, .int m_h.2.2.2, g21, g22, g23, g24, g25, g26, g27, g28, g29]))])) (wr := ([(a2, .inl (cB30, 26, .inl m_v)), (a3, .inl (cB31, 416, .inl m_h.1)), (a4, .inl (cB32, 78, .inl m_h.2.1))])) hP hD hK hS hA [0] [1, 2, 3] rfl rfl (by decide) (by decide) (by decide) (fun hPc hDc => (va_runV (As := [.int 1]) (rest := []) ⟨hx, hb, hml, hown, hts⟩ (kfX12_denied l dC dI a0 (1 : Int32) ((0 : Int32), m_t.2) (.ref a8) (g9) (g10) (g11) (g12) (g13) (g14) (g15) (g16) (g17) (g18) (g19) (.ref a2) (g20) (.ref a3) (.ref a4) (.int m_h.2.2.1) (.int m_h.2.2.2) (g21) (g22) (g23) (g24) (g25) (g26) (g27) (g28) (g29) H.size o26 eo26.symm) (cwV 1 hts gfX12_back_0 rfl rfl rfl (by decide +kernel) ⟨(Nat.le_of_ble_eq_true rfl), (Nat.le_of_ble_eq_true rfl)⟩) (PV hPc (hK.sub (tys' := ([])) [] rfl) hDc hN 0 rfl rfl) rfl rfl hl.1 rfl (lv_room (Nat.le_of_ble_eq_true rfl)) (zat zrX12_back_0_ok 14 rfl) ⟨(Nat.le_of_ble_eq_true rfl), (Nat.le_of_ble_eq_true rfl)⟩)) (fun r26 _ H locs hw hP hD _ hS => ?_)
    obtain ⟨hw, br26⟩ := hw
    obtain rfl := hw
    obtain ⟨hP, hD⟩ := pd_mk ([(a2, .inl (cB30, 26, .inl m_v)), (a3, .inl (cB31, 416, .inl m_h.1)), (a4, .inl (cB32, 78, .inl m_h.2.1)), (a0, .inr (9, [.int o26.1, .int o26.2.1, .int o26.2.2, .ref a8, g9, g10, g11, g12, g13, g14, g15, g16, g17, g18, g19, .ref a2, g20, .ref a3, .ref a4, .int m_h.2.2.1, .int m_h.2.2.2, g21, g22, g23, g24, g25, g26, g27, g28, g29]))]) hP hD
    obtain rfl := Option.some.inj h
    obtain ⟨hP9, hD9⟩ := pd_sub ([(a0, .inr (9, [.int o26.1, .int o26.2.1, .int o26.2.2, .ref a8, g9, g10, g11, g12, g13, g14, g15, g16, g17, g18, g19, .ref a2, g20, .ref a3, .ref a4, .int m_h.2.2.1, .int m_h.2.2.2, g21, g22, g23, g24, g25, g26, g27, g28, g29])), (a2, .inl (cB30, 26, .inl m_v)), (a3, .inl (cB31, 416, .inl m_h.1)), (a4, .inl (cB32, 78, .inl m_h.2.1))]) [3, 0, 1, 2] hP hD (by decide) rfl
    have hK9 := hK.sub (tys' := []) [] rfl
    rw [hQQ]
    exact W.zret (v := (0 : Int32)) hx hb hr rfl (fun t ht hW => ⟨⟨(0 : Int32), (), rfl, ⟨rfl, (by decide)⟩, by rw [ht]; exact hP9, va_K.moved hW.alike hK9, hD9⟩, hS.F ht⟩) hS.2.2 (zat zrX12_back_0_ok 15 rfl)
  refine lv_ifnull hx hb (zat zrX12_back_0_ok 5 rfl) ?_
  refine lv_iload_n hx hb (zat zrX12_back_0_ok 6 rfl) rfl (lv_at hl 1 rfl) ?_
  refine lv_if_lt (tgt := 24) hx hb (zat zrX12_back_0_ok 7 rfl) (by decide) (fun c13 => ?_) (fun c13 => ?_)
  · have h := (if_pos c13).symm.trans h
    exact J24  H _ ls h  hP hD hS (lv_sub hl [0] rfl)
  · have h := (if_neg c13).symm.trans h
    refine lv_iload_n hx hb (zat zrX12_back_0_ok 8 rfl) rfl (lv_at hl 1 rfl) ?_
    refine lv_aload_n hx hb (zat zrX12_back_0_ok 9 rfl) rfl (lv_at hl 0 rfl) ?_
    refine va_get (D := (dC, dI)) (ci := 9) (v := .int m_h.2.2.2) (C := RX12) (T := TX12) (N := 30) hx hb hts ifX12_back_X12 hown hK hP 0 rfl rfl 20 (by decide) (hts (.fieldLink RX12 304 "HookPierModel" "marks" "I") (List.mem_of_getElem? (i := 7) rfl)) (fun _ h9 => h9) rfl (zat zrX12_back_0_ok 10 rfl) ?_
    refine lv_icmp_lt (tgt := 30) hx hb (zat zrX12_back_0_ok 11 rfl) (by decide) (fun c21 => ?_) (fun c21 => ?_)
    · have h := (if_pos c21).symm.trans h
      refine lv_iconst (v := 0) hx hb (zat zrX12_back_0_ok 16 rfl) (by decide) ?_
      refine lv_istore_n (lv' := [(2, .int 0), (0, .ref a0), (1, .int k1)]) hx hb (zat zrX12_back_0_ok 17 rfl) rfl hl (by decide) rfl (fun ls hl => ?_)
      have L32 : ∀ (n32 : Nat) (v32_l2 : Int32) (v32_m_v : TX12_v) (H : Heap) (locs : List Loc) (ls : Array Slot), f_X12_back_L32 k1 m_t m_h n32 v32_l2 v32_m_v = some out → va_P (dC, dI) vwCl ([(a0, .inr (9, [.int 0, .int m_t.2.1, .int m_t.2.2, .ref a8, g9, g10, g11, g12, g13, g14, g15, g16, g17, g18, g19, .ref a2, g20, .ref a3, .ref a4, .int m_h.2.2.1, .int m_h.2.2.2, g21, g22, g23, g24, g25, g26, g27, g28, g29])), (a2, .inl (cB30, 26, .inl v32_m_v)), (a3, .inl (cB31, 416, .inl m_h.1)), (a4, .inl (cB32, 78, .inl m_h.2.1))]) H → va_D A ([(a0, .inr (9, [.int 0, .int m_t.2.1, .int m_t.2.2, .ref a8, g9, g10, g11, g12, g13, g14, g15, g16, g17, g18, g19, .ref a2, g20, .ref a3, .ref a4, .int m_h.2.2.1, .int m_h.2.2.2, g21, g22, g23, g24, g25, g26, g27, g28, g29])), (a2, .inl (cB30, 26, .inl v32_m_v)), (a3, .inl (cB31, 416, .inl m_h.1)), (a4, .inl (cB32, 78, .inl m_h.2.1))]) → va_S A s.heap H locs → lv_has ls 3 [(2, .int v32_l2), (0, .ref a0), (1, .int k1)] → W p l e (headSpec vfX12_back { frames := 2, cells := 0, slots := 0, locals := 42 }).room s m ([.ref a0, .int k1]).toArray below meth c H locs 0 0 QQ (F0 m 32 ls []) := by
        intro n32
        induction n32 with
        | zero =>
          intro v32_l2 v32_m_v H locs ls h  _ _ _ _
          rw [f_X12_back_L32] at h
          cases h
        | succ n32 ih32 =>
          intro v32_l2 v32_m_v H locs ls h  hP hD hS hl
          rw [f_X12_back_L32] at h
          refine lv_iload_n hx hb (zat zrX12_back_0_ok 18 rfl) rfl (lv_at hl 0 rfl) ?_
          refine lv_bipush (v := 26) hx hb (zat zrX12_back_0_ok 19 rfl) (by decide) ?_
          refine lv_icmp_ge (tgt := 61) hx hb (zat zrX12_back_0_ok 20 rfl) (by decide) (fun c35 => ?_) (fun c35 => ?_)
          · have h := (if_pos c35).symm.trans h
            refine lv_aload_n hx hb (zat zrX12_back_0_ok 35 rfl) rfl (lv_at hl 1 rfl) ?_
            refine lv_iconst (v := 0) hx hb (zat zrX12_back_0_ok 36 rfl) (by decide) ?_
            refine va_put (D := (dC, dI)) (ci := 9) (v := .int 0) (ty := .int) (C := RX12) (T := TX12) (N := 30) hx hb hts ifX12_back_X12 tyX12 tyX12_ok nmX12 hown hK hP hD hS 0 rfl rfl 19 (by decide) (hts (.fieldLink RX12 301 "HookPierModel" "acts" "I") (List.mem_of_getElem? (i := 8) rfl)) (fun _ h9 => h9) rfl (by decide +kernel) rfl rfl (Nat.le_of_ble_eq_true rfl) (zat zrX12_back_0_ok 37 rfl) (fun H locs hP hD hS => ?_)
            obtain ⟨hP, hD⟩ := pd_mk ([(a0, .inr (9, [.int 0, .int m_t.2.1, .int m_t.2.2, .ref a8, g9, g10, g11, g12, g13, g14, g15, g16, g17, g18, g19, .ref a2, g20, .ref a3, .ref a4, .int 0, .int m_h.2.2.2, g21, g22, g23, g24, g25, g26, g27, g28, g29])), (a2, .inl (cB30, 26, .inl v32_m_v)), (a3, .inl (cB31, 416, .inl m_h.1)), (a4, .inl (cB32, 78, .inl m_h.2.1))]) hP hD
            refine lv_aload_n hx hb (zat zrX12_back_0_ok 38 rfl) rfl (lv_at hl 1 rfl) ?_
            obtain ⟨o67, eo67⟩ : ∃ o, o = f_X12_granted ((0 : Int32), m_t.2) := ⟨_, rfl⟩
            have h := nm_of h o67 eo67
            refine ck_i (wc := ([(a0, .inr (9, [.int 0, .int m_t.2.1, .int m_t.2.2, .ref a8, g9, g10, g11, g12, g13, g14, g15, g16, g17, g18, g19, .ref a2, g20, .ref a3, .ref a4, .int 0, .int m_h.2.2.2, g21, g22, g23, g24, g25, g26, g27, g28, g29]))])) (wr := ([(a2, .inl (cB30, 26, .inl v32_m_v)), (a3, .inl (cB31, 416, .inl m_h.1)), (a4, .inl (cB32, 78, .inl m_h.2.1))])) hP hD hK hS hA [0] [1, 2, 3] rfl rfl (by decide) (by decide) (by decide) (fun hPc hDc => (va_runV (As := []) (rest := []) ⟨hx, hb, hml, hown, hts⟩ (kfX12_granted l dC dI a0 ((0 : Int32), m_t.2) (.ref a8) (g9) (g10) (g11) (g12) (g13) (g14) (g15) (g16) (g17) (g18) (g19) (.ref a2) (g20) (.ref a3) (.ref a4) (.int 0) (.int m_h.2.2.2) (g21) (g22) (g23) (g24) (g25) (g26) (g27) (g28) (g29) H.size o67 eo67.symm) (cwV 0 hts gfX12_back_1 rfl rfl rfl (by decide +kernel) ⟨(Nat.le_of_ble_eq_true rfl), (Nat.le_of_ble_eq_true rfl)⟩) (PV hPc (hK.sub (tys' := ([])) [] rfl) hDc hN 0 rfl rfl) rfl rfl hl.1 rfl (lv_room (Nat.le_of_ble_eq_true rfl)) (zat zrX12_back_0_ok 39 rfl) ⟨(Nat.le_of_ble_eq_true rfl), (Nat.le_of_ble_eq_true rfl)⟩)) (fun r67 _ H locs hw hP hD _ hS => ?_)
            obtain ⟨hw, br67⟩ := hw
            obtain rfl := hw
            obtain ⟨hP, hD⟩ := pd_mk ([(a2, .inl (cB30, 26, .inl v32_m_v)), (a3, .inl (cB31, 416, .inl m_h.1)), (a4, .inl (cB32, 78, .inl m_h.2.1)), (a0, .inr (9, [.int o67.1, .int o67.2.1, .int o67.2.2, .ref a8, g9, g10, g11, g12, g13, g14, g15, g16, g17, g18, g19, .ref a2, g20, .ref a3, .ref a4, .int 0, .int m_h.2.2.2, g21, g22, g23, g24, g25, g26, g27, g28, g29]))]) hP hD
            obtain rfl := Option.some.inj h
            obtain ⟨hP9, hD9⟩ := pd_sub ([(a0, .inr (9, [.int o67.1, .int o67.2.1, .int o67.2.2, .ref a8, g9, g10, g11, g12, g13, g14, g15, g16, g17, g18, g19, .ref a2, g20, .ref a3, .ref a4, .int 0, .int m_h.2.2.2, g21, g22, g23, g24, g25, g26, g27, g28, g29])), (a2, .inl (cB30, 26, .inl v32_m_v)), (a3, .inl (cB31, 416, .inl m_h.1)), (a4, .inl (cB32, 78, .inl m_h.2.1))]) [3, 0, 1, 2] hP hD (by decide) rfl
            have hK9 := hK.sub (tys' := []) [] rfl
            rw [hQQ]
            exact W.zret (v := (1 : Int32)) hx hb hr rfl (fun t ht hW => ⟨⟨(1 : Int32), (), rfl, ⟨rfl, (by decide)⟩, by rw [ht]; exact hP9, va_K.moved hW.alike hK9, hD9⟩, hS.F ht⟩) hS.2.2 (zat zrX12_back_0_ok 40 rfl)
          · have h := (if_neg c35).symm.trans h
            refine lv_aload_n hx hb (zat zrX12_back_0_ok 21 rfl) rfl (lv_at hl 1 rfl) ?_
            refine va_get (D := (dC, dI)) (ci := 9) (v := .ref a2) (C := RX12) (T := TX12) (N := 30) hx hb hts ifX12_back_X12 hown hK hP 0 rfl rfl 15 (by decide) (hts (.fieldLink RX12 17 "HookPierModel" "v" "[I") (List.mem_of_getElem? (i := 12) rfl)) (fun _ h9 => h9) rfl (zat zrX12_back_0_ok 22 rfl) ?_
            refine lv_iload_n hx hb (zat zrX12_back_0_ok 23 rfl) rfl (lv_at hl 0 rfl) ?_
            refine lv_aload_n hx hb (zat zrX12_back_0_ok 24 rfl) rfl (lv_at hl 1 rfl) ?_
            refine va_get (D := (dC, dI)) (ci := 9) (v := .ref a4) (C := RX12) (T := TX12) (N := 30) hx hb hts ifX12_back_X12 hown hK hP 0 rfl rfl 18 (by decide) (hts (.fieldLink RX12 27 "HookPierModel" "kept" "[I") (List.mem_of_getElem? (i := 13) rfl)) (fun _ h9 => h9) rfl (zat zrX12_back_0_ok 25 rfl) ?_
            refine lv_bipush (v := 26) hx hb (zat zrX12_back_0_ok 26 rfl) (by decide) ?_
            refine lv_iload_n hx hb (zat zrX12_back_0_ok 27 rfl) rfl (lv_at hl 2 rfl) ?_
            refine lv_imul hx hb (zat zrX12_back_0_ok 28 rfl) ?_
            refine lv_iload_n hx hb (zat zrX12_back_0_ok 29 rfl) rfl (lv_at hl 0 rfl) ?_
            refine lv_iadd hx hb (zat zrX12_back_0_ok 30 rfl) ?_
            obtain ⟨hg53, h⟩ := gA_of h
            refine va_iald hx hb hK hP 3 2 rfl rfl hg53 (zat zrX12_back_0_ok 31 rfl) ?_
            obtain ⟨hg54, h⟩ := gA_of h
            refine va_iast hx hb hK hP hD hS 1 0 rfl rfl hg54 (zat zrX12_back_0_ok 32 rfl) (fun H locs hP hD hS => ?_)
            obtain ⟨hP, hD⟩ := pd_mk ([(a0, .inr (9, [.int 0, .int m_t.2.1, .int m_t.2.2, .ref a8, g9, g10, g11, g12, g13, g14, g15, g16, g17, g18, g19, .ref a2, g20, .ref a3, .ref a4, .int m_h.2.2.1, .int m_h.2.2.2, g21, g22, g23, g24, g25, g26, g27, g28, g29])), (a2, .inl (cB30, 26, .inl (upd v32_m_v (v32_l2).toNatClampNeg (m_h.2.1 ((((26 : Int32) * k1) + v32_l2)).toNatClampNeg)))), (a3, .inl (cB31, 416, .inl m_h.1)), (a4, .inl (cB32, 78, .inl m_h.2.1))]) hP hD
            refine lv_iinc (v := (v32_l2 + (1 : Int32))) (lv' := [(2, .int (v32_l2 + (1 : Int32))), (0, .ref a0), (1, .int k1)]) hx hb (zat zrX12_back_0_ok 33 rfl) hl (k := 0) rfl rfl (by decide) rfl (fun ls hl => ?_)
            refine lv_goto (tgt := 32) hx hb (zat zrX12_back_0_ok 34 rfl) (by decide) ?_
            exact ih32 (v32_l2 + (1 : Int32)) (upd v32_m_v (v32_l2).toNatClampNeg (m_h.2.1 ((((26 : Int32) * k1) + v32_l2)).toNatClampNeg)) H _ ls h  hP hD hS (lv_sub hl [0, 1, 2] rfl)
      exact L32 FU (0 : Int32) m_v H _ ls h  hP hD hS (lv_sub hl [0, 1, 2] rfl)
    · have h := (if_neg c21).symm.trans h
      exact J24  H _ ls h  hP hD hS (lv_sub hl [0] rfl)
noncomputable def zrX12_fault_0 : List ZR := zc 0 true (.aload_n 0) 1 (zc 1 true (.iconst 0) 1 (zc 2 true (.putfield 36) 3 (zc 5 true (.aload_n 0) 1 (zc 6 true (.getfield 94) 3 (zc 9 true (.ireturn) 1 ([]))))))
theorem zrX12_fault_0_ok : zck 0 ((zby cX12_fault).drop 0) zrX12_fault_0 = true := by decide +kernel
def vfX12_fault : List Cond := List.cons (.code yX12_fault cX12_fault 1 (some .int)) (apW [.fieldLink RX12 36 "HookPierModel" "thrown" "I", .fieldLink RX12 94 "HookPierModel" "fault" "I"] (wsX120))
theorem ifX12_fault_X12 : ∀ w ∈ wsX120, w ∈ vfX12_fault := fun _ h => (List.mem_cons_of_mem _ (List.mem_append_right _ h))
theorem qfX12_fault : Good vfX12_fault := gd_cons (by decide +kernel) (gd_app (gd_dec (by decide +kernel) : Good [.fieldLink RX12 36 "HookPierModel" "thrown" "I", .fieldLink RX12 94 "HookPierModel" "fault" "I"]) qsX12)
set_option maxHeartbeats 2000000 in
set_option maxRecDepth 100000 in
theorem kfX12_fault (l : Launch) (dC : Nat → ClassId) (dI : Nat → Nat → Nat) (a0 : Nat) (a1 : Nat) (m_t : TX12_t) (m_s : TX12_s) (g4 : Value) (g5 : Value) (g6 : Value) (g7 : Value) (g8 : Value) (g9 : Value) (g10 : Value) (g11 : Value) (g12 : Value) (g13 : Value) (g14 : Value) (g15 : Value) (g16 : Value) (g17 : Value) (g18 : Value) (g19 : Value) (g20 : Value) (cB21 : ClassId) (sz : Nat) (out : (Int32 × TX12_t)) (h : f_X12_fault m_t m_s = out) : KCi l yX12_fault vfX12_fault ({ frames := 0, cells := 0, slots := 0, locals := 0 }) (dC, dI) [.ref a0] sz ([(a0, .inr (9, [.int m_t.1, .int m_t.2.1, .int m_t.2.2, g4, g5, .ref a1, .int m_s.2.1, .int m_s.2.2.1, .int m_s.2.2.2.1, .int m_s.2.2.2.2.1, .int m_s.2.2.2.2.2.1, .int m_s.2.2.2.2.2.2.1, .int m_s.2.2.2.2.2.2.2.1, .int m_s.2.2.2.2.2.2.2.2.1, .long m_s.2.2.2.2.2.2.2.2.2, g6, g7, g8, g9, g10, g11, g12, g13, g14, g15, g16, g17, g18, g19, g20])), (a1, .inl (cB21, 900, .inl m_s.1))]) ((cB21, .byte) :: []) (fun (r : Int32) _ => r = out.1) ([(a0, .inr (9, [.int out.2.1, .int out.2.2.1, .int out.2.2.2, g4, g5, .ref a1, .int m_s.2.1, .int m_s.2.2.1, .int m_s.2.2.2.1, .int m_s.2.2.2.2.1, .int m_s.2.2.2.2.2.1, .int m_s.2.2.2.2.2.2.1, .int m_s.2.2.2.2.2.2.2.1, .int m_s.2.2.2.2.2.2.2.2.1, .long m_s.2.2.2.2.2.2.2.2.2, g6, g7, g8, g9, g10, g11, g12, g13, g14, g15, g16, g17, g18, g19, g20])), (a1, .inl (cB21, 900, .inl m_s.1))]) 0 0 := by
  refine Met.ofW (cc := cX12_fault) (maxL := 1) (ret := (some .int)) (by decide) rfl ?_
  intro p e s m args below meth c s₁ B0 hml hv
  obtain ⟨rfl, hsz, hP, hK, hD0, hN⟩ := hv
  have hx := B0.exec
  have hb := B0.bytes
  have hr := B0.returns
  have hts := atoms_spec (ws := vfX12_fault) B0.pre
  have hown : s.vm.findClass RX12 = some m.cls := findClass_of_methodNamed B0.named
  have hlocks := B0.notSynchronized
  subst hsz
  have hD := hD0.self (sz := s.heap.size)
  generalize hAe : va_A ([(a0, .inr (9, [.int m_t.1, .int m_t.2.1, .int m_t.2.2, g4, g5, .ref a1, .int m_s.2.1, .int m_s.2.2.1, .int m_s.2.2.2.1, .int m_s.2.2.2.2.1, .int m_s.2.2.2.2.2.1, .int m_s.2.2.2.2.2.2.1, .int m_s.2.2.2.2.2.2.2.1, .int m_s.2.2.2.2.2.2.2.2.1, .long m_s.2.2.2.2.2.2.2.2.2, g6, g7, g8, g9, g10, g11, g12, g13, g14, g15, g16, g17, g18, g19, g20])), (a1, .inl (cB21, 900, .inl m_s.1))]) s.heap.size = A at hD ⊢
  have hA : ∀ q : Nat, s.heap.size ≤ q → A q := fun q h => by rw [← hAe]; exact Or.inr h
  have hS : va_S A s.heap s.heap [] := va_S.rf
  have hP : va_P (dC, dI) vwCl ([(a0, .inr (9, [.int m_t.1, .int m_t.2.1, .int m_t.2.2, g4, g5, .ref a1, .int m_s.2.1, .int m_s.2.2.1, .int m_s.2.2.2.1, .int m_s.2.2.2.2.1, .int m_s.2.2.2.2.2.1, .int m_s.2.2.2.2.2.2.1, .int m_s.2.2.2.2.2.2.2.1, .int m_s.2.2.2.2.2.2.2.2.1, .long m_s.2.2.2.2.2.2.2.2.2, g6, g7, g8, g9, g10, g11, g12, g13, g14, g15, g16, g17, g18, g19, g20])), (a1, .inl (cB21, 900, .inl m_s.1))]) s.heap := hP
  have hl := lv_entry ([.ref a0]) (n := 1) (Nat.le_of_ble_eq_true rfl)
  rw [lg_entry_eq]
  generalize (lg_sl ([.ref a0]) ++ List.replicate (1 - (lg_sl ([.ref a0])).length) Slot.unset).toArray = ls at hl ⊢
  have hl : lv_has ls 1 [(0, .ref a0)] := hl
  refine W_q (fun QQ hQQ => ?_)
  rw [f_X12_fault] at h
  refine lv_aload_n hx hb (zat zrX12_fault_0_ok 0 rfl) rfl (lv_at hl 0 rfl) ?_
  refine lv_iconst (v := 0) hx hb (zat zrX12_fault_0_ok 1 rfl) (by decide) ?_
  refine va_put (D := (dC, dI)) (ci := 9) (v := .int 0) (ty := .int) (C := RX12) (T := TX12) (N := 30) hx hb hts ifX12_fault_X12 tyX12 tyX12_ok nmX12 hown hK hP hD hS 0 rfl rfl 0 (by decide) (hts (.fieldLink RX12 36 "HookPierModel" "thrown" "I") (List.mem_of_getElem? (i := 1) rfl)) (fun _ h9 => h9) rfl (by decide +kernel) rfl rfl (Nat.le_of_ble_eq_true rfl) (zat zrX12_fault_0_ok 2 rfl) (fun H locs hP hD hS => ?_)
  obtain ⟨hP, hD⟩ := pd_mk ([(a0, .inr (9, [.int 0, .int m_t.2.1, .int m_t.2.2, g4, g5, .ref a1, .int m_s.2.1, .int m_s.2.2.1, .int m_s.2.2.2.1, .int m_s.2.2.2.2.1, .int m_s.2.2.2.2.2.1, .int m_s.2.2.2.2.2.2.1, .int m_s.2.2.2.2.2.2.2.1, .int m_s.2.2.2.2.2.2.2.2.1, .long m_s.2.2.2.2.2.2.2.2.2, g6, g7, g8, g9, g10, g11, g12, g13, g14, g15, g16, g17, g18, g19, g20])), (a1, .inl (cB21, 900, .inl m_s.1))]) hP hD
  refine lv_aload_n hx hb (zat zrX12_fault_0_ok 3 rfl) rfl (lv_at hl 0 rfl) ?_
  refine va_get (D := (dC, dI)) (ci := 9) (v := .int m_s.2.2.2.2.2.2.2.1) (C := RX12) (T := TX12) (N := 30) hx hb hts ifX12_fault_X12 hown hK hP 0 rfl rfl 12 (by decide) (hts (.fieldLink RX12 94 "HookPierModel" "fault" "I") (List.mem_of_getElem? (i := 2) rfl)) (fun _ h9 => h9) rfl (zat zrX12_fault_0_ok 4 rfl) ?_
  obtain rfl := h
  obtain ⟨hP9, hD9⟩ := pd_sub ([(a0, .inr (9, [.int 0, .int m_t.2.1, .int m_t.2.2, g4, g5, .ref a1, .int m_s.2.1, .int m_s.2.2.1, .int m_s.2.2.2.1, .int m_s.2.2.2.2.1, .int m_s.2.2.2.2.2.1, .int m_s.2.2.2.2.2.2.1, .int m_s.2.2.2.2.2.2.2.1, .int m_s.2.2.2.2.2.2.2.2.1, .long m_s.2.2.2.2.2.2.2.2.2, g6, g7, g8, g9, g10, g11, g12, g13, g14, g15, g16, g17, g18, g19, g20])), (a1, .inl (cB21, 900, .inl m_s.1))]) [0, 1] hP hD (by decide) rfl
  have hK9 := hK.sub (tys' := []) [] rfl
  rw [hQQ]
  exact W.iret (v := m_s.2.2.2.2.2.2.2.1) hx hb hr (fun t ht hW => ⟨⟨m_s.2.2.2.2.2.2.2.1, (), rfl, rfl, by rw [ht]; exact hP9, va_K.moved hW.alike hK9, hD9⟩, hS.F ht⟩) hS.2.2 (zat zrX12_fault_0_ok 5 rfl)
noncomputable def zrX12_where_0 : List ZR := zc 0 true (.aload_n 0) 1 (zc 1 true (.iconst 0) 1 (zc 2 true (.putfield 36) 3 (zc 5 true (.aload_n 0) 1 (zc 6 true (.getfield 9) 3 (zc 9 true (.ireturn) 1 ([]))))))
theorem zrX12_where_0_ok : zck 0 ((zby cX12_where).drop 0) zrX12_where_0 = true := by decide +kernel
def vfX12_where : List Cond := List.cons (.code yX12_where cX12_where 1 (some .int)) (apW [.fieldLink RX12 36 "HookPierModel" "thrown" "I", .fieldLink RX12 9 "HookPierModel" "where" "I"] (wsX120))
theorem ifX12_where_X12 : ∀ w ∈ wsX120, w ∈ vfX12_where := fun _ h => (List.mem_cons_of_mem _ (List.mem_append_right _ h))
theorem qfX12_where : Good vfX12_where := gd_cons (by decide +kernel) (gd_app (gd_dec (by decide +kernel) : Good [.fieldLink RX12 36 "HookPierModel" "thrown" "I", .fieldLink RX12 9 "HookPierModel" "where" "I"]) qsX12)
set_option maxHeartbeats 2000000 in
set_option maxRecDepth 100000 in
theorem kfX12_where (l : Launch) (dC : Nat → ClassId) (dI : Nat → Nat → Nat) (a0 : Nat) (m_t : TX12_t) (g2 : Value) (g3 : Value) (g4 : Value) (g5 : Value) (g6 : Value) (g7 : Value) (g8 : Value) (g9 : Value) (g10 : Value) (g11 : Value) (g12 : Value) (g13 : Value) (g14 : Value) (g15 : Value) (g16 : Value) (g17 : Value) (g18 : Value) (g19 : Value) (g20 : Value) (g21 : Value) (g22 : Value) (g23 : Value) (g24 : Value) (g25 : Value) (g26 : Value) (g27 : Value) (g28 : Value) (sz : Nat) (out : (Int32 × TX12_t)) (h : f_X12_where m_t = out) : KCi l yX12_where vfX12_where ({ frames := 0, cells := 0, slots := 0, locals := 0 }) (dC, dI) [.ref a0] sz ([(a0, .inr (9, [.int m_t.1, .int m_t.2.1, .int m_t.2.2, g2, g3, g4, g5, g6, g7, g8, g9, g10, g11, g12, g13, g14, g15, g16, g17, g18, g19, g20, g21, g22, g23, g24, g25, g26, g27, g28]))]) ([]) (fun (r : Int32) _ => r = out.1) ([(a0, .inr (9, [.int out.2.1, .int out.2.2.1, .int out.2.2.2, g2, g3, g4, g5, g6, g7, g8, g9, g10, g11, g12, g13, g14, g15, g16, g17, g18, g19, g20, g21, g22, g23, g24, g25, g26, g27, g28]))]) 0 0 := by
  refine Met.ofW (cc := cX12_where) (maxL := 1) (ret := (some .int)) (by decide) rfl ?_
  intro p e s m args below meth c s₁ B0 hml hv
  obtain ⟨rfl, hsz, hP, hK, hD0, hN⟩ := hv
  have hx := B0.exec
  have hb := B0.bytes
  have hr := B0.returns
  have hts := atoms_spec (ws := vfX12_where) B0.pre
  have hown : s.vm.findClass RX12 = some m.cls := findClass_of_methodNamed B0.named
  have hlocks := B0.notSynchronized
  subst hsz
  have hD := hD0.self (sz := s.heap.size)
  generalize hAe : va_A ([(a0, .inr (9, [.int m_t.1, .int m_t.2.1, .int m_t.2.2, g2, g3, g4, g5, g6, g7, g8, g9, g10, g11, g12, g13, g14, g15, g16, g17, g18, g19, g20, g21, g22, g23, g24, g25, g26, g27, g28]))]) s.heap.size = A at hD ⊢
  have hA : ∀ q : Nat, s.heap.size ≤ q → A q := fun q h => by rw [← hAe]; exact Or.inr h
  have hS : va_S A s.heap s.heap [] := va_S.rf
  have hP : va_P (dC, dI) vwCl ([(a0, .inr (9, [.int m_t.1, .int m_t.2.1, .int m_t.2.2, g2, g3, g4, g5, g6, g7, g8, g9, g10, g11, g12, g13, g14, g15, g16, g17, g18, g19, g20, g21, g22, g23, g24, g25, g26, g27, g28]))]) s.heap := hP
  have hl := lv_entry ([.ref a0]) (n := 1) (Nat.le_of_ble_eq_true rfl)
  rw [lg_entry_eq]
  generalize (lg_sl ([.ref a0]) ++ List.replicate (1 - (lg_sl ([.ref a0])).length) Slot.unset).toArray = ls at hl ⊢
  have hl : lv_has ls 1 [(0, .ref a0)] := hl
  refine W_q (fun QQ hQQ => ?_)
  rw [f_X12_where] at h
  refine lv_aload_n hx hb (zat zrX12_where_0_ok 0 rfl) rfl (lv_at hl 0 rfl) ?_
  refine lv_iconst (v := 0) hx hb (zat zrX12_where_0_ok 1 rfl) (by decide) ?_
  refine va_put (D := (dC, dI)) (ci := 9) (v := .int 0) (ty := .int) (C := RX12) (T := TX12) (N := 30) hx hb hts ifX12_where_X12 tyX12 tyX12_ok nmX12 hown hK hP hD hS 0 rfl rfl 0 (by decide) (hts (.fieldLink RX12 36 "HookPierModel" "thrown" "I") (List.mem_of_getElem? (i := 1) rfl)) (fun _ h9 => h9) rfl (by decide +kernel) rfl rfl (Nat.le_of_ble_eq_true rfl) (zat zrX12_where_0_ok 2 rfl) (fun H locs hP hD hS => ?_)
  obtain ⟨hP, hD⟩ := pd_mk ([(a0, .inr (9, [.int 0, .int m_t.2.1, .int m_t.2.2, g2, g3, g4, g5, g6, g7, g8, g9, g10, g11, g12, g13, g14, g15, g16, g17, g18, g19, g20, g21, g22, g23, g24, g25, g26, g27, g28]))]) hP hD
  refine lv_aload_n hx hb (zat zrX12_where_0_ok 3 rfl) rfl (lv_at hl 0 rfl) ?_
  refine va_get (D := (dC, dI)) (ci := 9) (v := .int m_t.2.2) (C := RX12) (T := TX12) (N := 30) hx hb hts ifX12_where_X12 hown hK hP 0 rfl rfl 2 (by decide) (hts (.fieldLink RX12 9 "HookPierModel" "where" "I") (List.mem_of_getElem? (i := 2) rfl)) (fun _ h9 => h9) rfl (zat zrX12_where_0_ok 4 rfl) ?_
  obtain rfl := h
  obtain ⟨hP9, hD9⟩ := pd_sub ([(a0, .inr (9, [.int 0, .int m_t.2.1, .int m_t.2.2, g2, g3, g4, g5, g6, g7, g8, g9, g10, g11, g12, g13, g14, g15, g16, g17, g18, g19, g20, g21, g22, g23, g24, g25, g26, g27, g28]))]) [0] hP hD (by decide) rfl
  have hK9 := hK.sub (tys' := []) [] rfl
  rw [hQQ]
  exact W.iret (v := m_t.2.2) hx hb hr (fun t ht hW => ⟨⟨m_t.2.2, (), rfl, rfl, by rw [ht]; exact hP9, va_K.moved hW.alike hK9, hD9⟩, hS.F ht⟩) hS.2.2 (zat zrX12_where_0_ok 5 rfl)
noncomputable def zrX12_size_0 : List ZR := zc 0 true (.aload_n 0) 1 (zc 1 true (.iconst 0) 1 (zc 2 true (.putfield 36) 3 (zc 5 true (.iload_n 1) 1 (zc 6 true (.bipush 11) 2 (zc 8 true (.if_icmp .ne 8) 3 (zc 11 true (.aload_n 0) 1 (zc 12 true (.getfield 292) 3 (zc 15 true (.ireturn) 1 (zc 16 true (.iload_n 1) 1 (zc 17 true (.iconst 0) 1 (zc 18 true (.bipush 10) 2 (zc 20 true (.invokestatic 115) 3 (zc 23 true (.ifCond .ne 5) 3 (zc 26 true (.iconst (-1)) 1 (zc 27 true (.ireturn) 1 (zc 28 true (.aload_n 0) 1 (zc 29 true (.getfield 299) 3 (zc 32 true (.ifnonnull 5) 3 (zc 35 false (.nop) 2 (zc 37 true (.iload_n 1) 1 (zc 38 false (.nop) 54 (zc 92 true (.aload_n 0) 1 (zc 93 true (.getfield 299) 3 (zc 96 true (.getfield 143) 3 (zc 99 true (.ireturn) 1 (zc 100 true (.aload_n 0) 1 (zc 101 true (.getfield 299) 3 (zc 104 true (.getfield 207) 3 (zc 107 true (.ireturn) 1 (zc 108 true (.aload_n 0) 1 (zc 109 true (.getfield 299) 3 (zc 112 true (.getfield 175) 3 (zc 115 true (.ireturn) 1 (zc 116 true (.aload_n 0) 1 (zc 117 true (.getfield 299) 3 (zc 120 true (.getfield 224) 3 (zc 123 true (.ireturn) 1 (zc 124 true (.aload_n 0) 1 (zc 125 true (.getfield 299) 3 (zc 128 true (.getfield 231) 3 (zc 131 true (.ireturn) 1 (zc 132 true (.aload_n 0) 1 (zc 133 true (.getfield 299) 3 (zc 136 true (.getfield 271) 3 (zc 139 true (.ireturn) 1 (zc 140 true (.aload_n 0) 1 (zc 141 true (.getfield 17) 3 (zc 144 true (.bipush 23) 2 (zc 146 true (.iaload) 1 (zc 147 true (.ireturn) 1 (zc 148 true (.aload_n 0) 1 (zc 149 true (.getfield 17) 3 (zc 152 true (.bipush 24) 2 (zc 154 true (.iaload) 1 (zc 155 true (.ireturn) 1 (zc 156 true (.aload_n 0) 1 (zc 157 true (.getfield 17) 3 (zc 160 true (.bipush 25) 2 (zc 162 true (.iaload) 1 (zc 163 true (.ireturn) 1 (zc 164 true (.aload_n 0) 1 (zc 165 true (.getfield 301) 3 (zc 168 true (.ireturn) 1 ([]))))))))))))))))))))))))))))))))))))))))))))))))))))))))))))))))
theorem zrX12_size_0_ok : zck 0 ((zby cX12_size).drop 0) zrX12_size_0 = true := by decide +kernel
noncomputable def zrX12_size_1 : List ZR := zc 169 true (.aload_n 0) 1 (zc 170 true (.getfield 304) 3 (zc 173 true (.ireturn) 1 ([])))
theorem zrX12_size_1_ok : zck 169 ((zby cX12_size).drop 169) zrX12_size_1 = true := by decide +kernel
theorem dX12_size_38 : decode cX12_size 38 = .ok (.tableswitch 131 0 9 #[54, 62, 70, 78, 86, 94, 102, 110, 118, 126], 54) := by decide +kernel
def vfX12_size : List Cond := List.cons (.code yX12_size cX12_size 2 (some .int)) (apW [.fieldLink RX12 36 "HookPierModel" "thrown" "I", .methodLink RX12 115 yX12_in, .static yX12_in, .initialized RX12, .fieldLink RX12 299 "HookPierModel" "pier" "LHookPierModel$Pier;", .fieldLink RX12 17 "HookPierModel" "v" "[I", .fieldLink RX12 301 "HookPierModel" "acts" "I", .fieldLink RX12 304 "HookPierModel" "marks" "I", .fieldLink RX12 292 "HookPierModel" "taped" "I"] (apW wsX120 (apW wsX110 (vfX12_in))))
theorem ifX12_size_X12 : ∀ w ∈ wsX120, w ∈ vfX12_size := fun _ h => (List.mem_cons_of_mem _ (List.mem_append_right _ (List.mem_append_left _ h)))
theorem ifX12_size_X11 : ∀ w ∈ wsX110, w ∈ vfX12_size := fun _ h => (List.mem_cons_of_mem _ (List.mem_append_right _ (List.mem_append_right _ (List.mem_append_left _ h))))
theorem qfX12_size : Good vfX12_size := gd_cons (by decide +kernel) (gd_app (gd_dec (by decide +kernel) : Good [.fieldLink RX12 36 "HookPierModel" "thrown" "I", .methodLink RX12 115 yX12_in, .static yX12_in, .initialized RX12, .fieldLink RX12 299 "HookPierModel" "pier" "LHookPierModel$Pier;", .fieldLink RX12 17 "HookPierModel" "v" "[I", .fieldLink RX12 301 "HookPierModel" "acts" "I", .fieldLink RX12 304 "HookPierModel" "marks" "I", .fieldLink RX12 292 "HookPierModel" "taped" "I"]) (gd_app qsX12 (gd_app qsX11 qfX12_in)))
theorem gfX12_size_0 : GoodIn vfX12_size (va_wsS RX12 115 yX12_in vfX12_in) := goodIn_app (goodIn_r [.methodLink RX12 115 yX12_in, .static yX12_in, .initialized RX12] [2, 3, 4] rfl (by decide +kernel)) (goodIn_m (fun _ h => (List.mem_cons_of_mem _ (List.mem_append_right _ (List.mem_append_right _ (List.mem_append_right _ h))))) qfX12_in)
set_option maxHeartbeats 2000000 in
set_option maxRecDepth 100000 in
theorem kfX12_size (l : Launch) (dC : Nat → ClassId) (dI : Nat → Nat → Nat) (a0 : Nat) (k1 : Int32) (a2 : Nat) (a3 : Nat) (a4 : Nat) (a5 : Nat) (a6 : Nat) (uq : Nat → Nat) (kq : Nat → ClassId) (m_t : TX12_t) (m_s : TX12_s) (m_v : TX12_v) (m_h : TX12_h) (g13 : Value) (g14 : Value) (g15 : Value) (g16 : Value) (g17 : Value) (g18 : Value) (g19 : Value) (g20 : Value) (g21 : Value) (g22 : Value) (g23 : Value) (q_q : TX11_q) (cB25 : ClassId) (cB26 : ClassId) (cB27 : ClassId) (cB28 : ClassId) (sz : Nat) (out : (Int32 × TX12_t)) (h : f_X12_size k1 m_t m_s m_v m_h q_q = out) : KCi l yX12_size vfX12_size ({ frames := 1, cells := 0, slots := 0, locals := 22 }) (dC, dI) [.ref a0, .int k1] sz ((a0, .inr (9, [.int m_t.1, .int m_t.2.1, .int m_t.2.2, .ref a2, g13, .ref a3, .int m_s.2.1, .int m_s.2.2.1, .int m_s.2.2.2.1, .int m_s.2.2.2.2.1, .int m_s.2.2.2.2.2.1, .int m_s.2.2.2.2.2.2.1, .int m_s.2.2.2.2.2.2.2.1, .int m_s.2.2.2.2.2.2.2.2.1, .long m_s.2.2.2.2.2.2.2.2.2, .ref a4, g14, .ref a5, .ref a6, .int m_h.2.2.1, .int m_h.2.2.2, g15, g16, g17, g18, g19, g20, g21, g22, g23])) :: bX11 a2 uq kq q_q ([(a3, .inl (cB25, 900, .inl m_s.1)), (a4, .inl (cB26, 26, .inl m_v)), (a5, .inl (cB27, 416, .inl m_h.1)), (a6, .inl (cB28, 78, .inl m_h.2.1))])) (tX11 kq ((cB25, .byte) :: (cB26, .int) :: (cB27, .int) :: (cB28, .int) :: [])) (fun (r : Int32) _ => r = out.1) ((a0, .inr (9, [.int out.2.1, .int out.2.2.1, .int out.2.2.2, .ref a2, g13, .ref a3, .int m_s.2.1, .int m_s.2.2.1, .int m_s.2.2.2.1, .int m_s.2.2.2.2.1, .int m_s.2.2.2.2.2.1, .int m_s.2.2.2.2.2.2.1, .int m_s.2.2.2.2.2.2.2.1, .int m_s.2.2.2.2.2.2.2.2.1, .long m_s.2.2.2.2.2.2.2.2.2, .ref a4, g14, .ref a5, .ref a6, .int m_h.2.2.1, .int m_h.2.2.2, g15, g16, g17, g18, g19, g20, g21, g22, g23])) :: bX11 a2 uq kq q_q ([(a3, .inl (cB25, 900, .inl m_s.1)), (a4, .inl (cB26, 26, .inl m_v)), (a5, .inl (cB27, 416, .inl m_h.1)), (a6, .inl (cB28, 78, .inl m_h.2.1))])) 0 0 := by
  refine Met.ofW (cc := cX12_size) (maxL := 2) (ret := (some .int)) (by decide) rfl ?_
  intro p e s m args below meth c s₁ B0 hml hv
  obtain ⟨rfl, hsz, hP, hK, hD0, hN⟩ := hv
  have hx := B0.exec
  have hb := B0.bytes
  have hr := B0.returns
  have hts := atoms_spec (ws := vfX12_size) B0.pre
  have hown : s.vm.findClass RX12 = some m.cls := findClass_of_methodNamed B0.named
  have hlocks := B0.notSynchronized
  subst hsz
  have hD := hD0.self (sz := s.heap.size)
  generalize hAe : va_A ((a0, .inr (9, [.int m_t.1, .int m_t.2.1, .int m_t.2.2, .ref a2, g13, .ref a3, .int m_s.2.1, .int m_s.2.2.1, .int m_s.2.2.2.1, .int m_s.2.2.2.2.1, .int m_s.2.2.2.2.2.1, .int m_s.2.2.2.2.2.2.1, .int m_s.2.2.2.2.2.2.2.1, .int m_s.2.2.2.2.2.2.2.2.1, .long m_s.2.2.2.2.2.2.2.2.2, .ref a4, g14, .ref a5, .ref a6, .int m_h.2.2.1, .int m_h.2.2.2, g15, g16, g17, g18, g19, g20, g21, g22, g23])) :: bX11 a2 uq kq q_q ([(a3, .inl (cB25, 900, .inl m_s.1)), (a4, .inl (cB26, 26, .inl m_v)), (a5, .inl (cB27, 416, .inl m_h.1)), (a6, .inl (cB28, 78, .inl m_h.2.1))])) s.heap.size = A at hD ⊢
  have hA : ∀ q : Nat, s.heap.size ≤ q → A q := fun q h => by rw [← hAe]; exact Or.inr h
  have hS : va_S A s.heap s.heap [] := va_S.rf
  have hP : va_P (dC, dI) vwCl ((a0, .inr (9, [.int m_t.1, .int m_t.2.1, .int m_t.2.2, .ref a2, g13, .ref a3, .int m_s.2.1, .int m_s.2.2.1, .int m_s.2.2.2.1, .int m_s.2.2.2.2.1, .int m_s.2.2.2.2.2.1, .int m_s.2.2.2.2.2.2.1, .int m_s.2.2.2.2.2.2.2.1, .int m_s.2.2.2.2.2.2.2.2.1, .long m_s.2.2.2.2.2.2.2.2.2, .ref a4, g14, .ref a5, .ref a6, .int m_h.2.2.1, .int m_h.2.2.2, g15, g16, g17, g18, g19, g20, g21, g22, g23])) :: bX11 a2 uq kq q_q ([(a3, .inl (cB25, 900, .inl m_s.1)), (a4, .inl (cB26, 26, .inl m_v)), (a5, .inl (cB27, 416, .inl m_h.1)), (a6, .inl (cB28, 78, .inl m_h.2.1))])) s.heap := hP
  have hl := lv_entry ([.ref a0, .int k1]) (n := 2) (Nat.le_of_ble_eq_true rfl)
  rw [lg_entry_eq]
  generalize (lg_sl ([.ref a0, .int k1]) ++ List.replicate (2 - (lg_sl ([.ref a0, .int k1])).length) Slot.unset).toArray = ls at hl ⊢
  have hl : lv_has ls 2 [(0, .ref a0), (1, .int k1)] := hl
  refine W_q (fun QQ hQQ => ?_)
  rw [f_X12_size] at h
  refine lv_aload_n hx hb (zat zrX12_size_0_ok 0 rfl) rfl (lv_at hl 0 rfl) ?_
  refine lv_iconst (v := 0) hx hb (zat zrX12_size_0_ok 1 rfl) (by decide) ?_
  refine va_put (D := (dC, dI)) (ci := 9) (v := .int 0) (ty := .int) (C := RX12) (T := TX12) (N := 30) hx hb hts ifX12_size_X12 tyX12 tyX12_ok nmX12 hown hK hP hD hS 0 rfl rfl 0 (by decide) (hts (.fieldLink RX12 36 "HookPierModel" "thrown" "I") (List.mem_of_getElem? (i := 1) rfl)) (fun _ h9 => h9) rfl (by decide +kernel) rfl rfl (Nat.le_of_ble_eq_true rfl) (zat zrX12_size_0_ok 2 rfl) (fun H locs hP hD hS => ?_)
  obtain ⟨hP, hD⟩ := pd_mk ((a0, .inr (9, [.int 0, .int m_t.2.1, .int m_t.2.2, .ref a2, g13, .ref a3, .int m_s.2.1, .int m_s.2.2.1, .int m_s.2.2.2.1, .int m_s.2.2.2.2.1, .int m_s.2.2.2.2.2.1, .int m_s.2.2.2.2.2.2.1, .int m_s.2.2.2.2.2.2.2.1, .int m_s.2.2.2.2.2.2.2.2.1, .long m_s.2.2.2.2.2.2.2.2.2, .ref a4, g14, .ref a5, .ref a6, .int m_h.2.2.1, .int m_h.2.2.2, g15, g16, g17, g18, g19, g20, g21, g22, g23])) :: bX11 a2 uq kq q_q ([(a3, .inl (cB25, 900, .inl m_s.1)), (a4, .inl (cB26, 26, .inl m_v)), (a5, .inl (cB27, 416, .inl m_h.1)), (a6, .inl (cB28, 78, .inl m_h.2.1))])) hP hD
  refine lv_iload_n hx hb (zat zrX12_size_0_ok 3 rfl) rfl (lv_at hl 1 rfl) ?_
  refine lv_bipush (v := 11) hx hb (zat zrX12_size_0_ok 4 rfl) (by decide) ?_
  refine lv_icmp_ne (tgt := 16) hx hb (zat zrX12_size_0_ok 5 rfl) (by decide) (fun c8 => ?_) (fun c8 => ?_)
  · have h := (if_neg c8).symm.trans h
    refine lv_iload_n hx hb (zat zrX12_size_0_ok 9 rfl) rfl (lv_at hl 1 rfl) ?_
    refine lv_iconst (v := 0) hx hb (zat zrX12_size_0_ok 10 rfl) (by decide) ?_
    refine lv_bipush (v := 10) hx hb (zat zrX12_size_0_ok 11 rfl) (by decide) ?_
    obtain ⟨o20, eo20⟩ : ∃ o, o = f_X12_in k1 (0 : Int32) (10 : Int32) := ⟨_, rfl⟩
    have h := nm_of h o20 eo20
    refine ck_i (wc := []) (wr := ((a0, .inr (9, [.int 0, .int m_t.2.1, .int m_t.2.2, .ref a2, g13, .ref a3, .int m_s.2.1, .int m_s.2.2.1, .int m_s.2.2.2.1, .int m_s.2.2.2.2.1, .int m_s.2.2.2.2.2.1, .int m_s.2.2.2.2.2.2.1, .int m_s.2.2.2.2.2.2.2.1, .int m_s.2.2.2.2.2.2.2.2.1, .long m_s.2.2.2.2.2.2.2.2.2, .ref a4, g14, .ref a5, .ref a6, .int m_h.2.2.1, .int m_h.2.2.2, g15, g16, g17, g18, g19, g20, g21, g22, g23])) :: bX11 a2 uq kq q_q ([(a3, .inl (cB25, 900, .inl m_s.1)), (a4, .inl (cB26, 26, .inl m_v)), (a5, .inl (cB27, 416, .inl m_h.1)), (a6, .inl (cB28, 78, .inl m_h.2.1))]))) hP hD hK hS hA [] [0, 1, 2, 3, 4, 5, 6, 7, 8, 9, 10, 11, 12, 13, 14, 15, 16, 17, 18, 19] rfl rfl (by decide) (by decide) (by decide) (fun hPc hDc => (va_runS (As := [.int k1, .int 0, .int 10]) (rest := []) ⟨hx, hb, hml, hown, hts⟩ (kfX12_in l dC dI k1 (0 : Int32) (10 : Int32) H.size o20 eo20.symm) (va_cwS 3 hts gfX12_size_0 rfl rfl rfl (by decide +kernel) ⟨(Nat.le_of_ble_eq_true rfl), (Nat.le_of_ble_eq_true rfl)⟩) (PS hPc (hK.sub (tys' := ([])) [] rfl) hDc hN) rfl rfl hl.1 rfl (lv_room (Nat.le_of_ble_eq_true rfl)) (zat zrX12_size_0_ok 12 rfl) ⟨(Nat.le_of_ble_eq_true rfl), (Nat.le_of_ble_eq_true rfl)⟩)) (fun r20 _ H locs hw hP hD _ hS => ?_)
    obtain ⟨hw, br20⟩ := hw
    obtain rfl := hw.symm
    obtain ⟨hP, hD⟩ := pd_mk ((a0, .inr (9, [.int 0, .int m_t.2.1, .int m_t.2.2, .ref a2, g13, .ref a3, .int m_s.2.1, .int m_s.2.2.1, .int m_s.2.2.2.1, .int m_s.2.2.2.2.1, .int m_s.2.2.2.2.2.1, .int m_s.2.2.2.2.2.2.1, .int m_s.2.2.2.2.2.2.2.1, .int m_s.2.2.2.2.2.2.2.2.1, .long m_s.2.2.2.2.2.2.2.2.2, .ref a4, g14, .ref a5, .ref a6, .int m_h.2.2.1, .int m_h.2.2.2, g15, g16, g17, g18, g19, g20, g21, g22, g23])) :: bX11 a2 uq kq q_q ([(a3, .inl (cB25, 900, .inl m_s.1)), (a4, .inl (cB26, 26, .inl m_v)), (a5, .inl (cB27, 416, .inl m_h.1)), (a6, .inl (cB28, 78, .inl m_h.2.1))])) hP hD
    refine lv_if_ne (tgt := 28) hx hb (zat zrX12_size_0_ok 13 rfl) (by decide) (fun c23 => ?_) (fun c23 => ?_)
    · have h := (if_neg c23).symm.trans h
      refine lv_aload_n hx hb (zat zrX12_size_0_ok 16 rfl) rfl (lv_at hl 0 rfl) ?_
      refine va_get (D := (dC, dI)) (ci := 9) (v := .ref a2) (C := RX12) (T := TX12) (N := 30) hx hb hts ifX12_size_X12 hown hK hP 0 rfl rfl 3 (by decide) (hts (.fieldLink RX12 299 "HookPierModel" "pier" "LHookPierModel$Pier;") (List.mem_of_getElem? (i := 5) rfl)) (fun _ h9 => h9) rfl (zat zrX12_size_0_ok 17 rfl) ?_
      refine lv_ifnonnull (tgt := 37) hx hb (zat zrX12_size_0_ok 18 rfl) (by decide) ?_
      refine lv_iload_n hx hb (zat zrX12_size_0_ok 20 rfl) rfl (lv_at hl 1 rfl) ?_
      by_cases c38_0 : k1 = 0
      · have h := (if_pos c38_0).symm.trans h
        refine lv_tableIn (tgt := 92) hx hb dX12_size_38 (by rw [c38_0] <;> decide) (by rw [c38_0] <;> decide) (by rw [c38_0] <;> rfl) (by decide) ?_
        refine lv_aload_n hx hb (zat zrX12_size_0_ok 22 rfl) rfl (lv_at hl 0 rfl) ?_
        refine va_get (D := (dC, dI)) (ci := 9) (v := .ref a2) (C := RX12) (T := TX12) (N := 30) hx hb hts ifX12_size_X12 hown hK hP 0 rfl rfl 3 (by decide) (hts (.fieldLink RX12 299 "HookPierModel" "pier" "LHookPierModel$Pier;") (List.mem_of_getElem? (i := 5) rfl)) (fun _ h9 => h9) rfl (zat zrX12_size_0_ok 23 rfl) ?_
        refine va_getN (D := (dC, dI)) (ci := 8) (v := .int q_q.1) (C := RX11) (T := TX11) (N := 24) hx hb hts ifX12_size_X11 hown hK hP 1 rfl rfl 0 (by decide) (va_Nw.use rfl (hN.1 (.fieldLinkNest RX12 143 "HookPierModel$Pier" "spots" "I" "HookPierModel") (List.mem_of_getElem? (i := 22) rfl))) (fun _ h9 => h9) rfl (zat zrX12_size_0_ok 24 rfl) ?_
        obtain rfl := h
        obtain ⟨hP9, hD9⟩ := pd_sub ((a0, .inr (9, [.int 0, .int m_t.2.1, .int m_t.2.2, .ref a2, g13, .ref a3, .int m_s.2.1, .int m_s.2.2.1, .int m_s.2.2.2.1, .int m_s.2.2.2.2.1, .int m_s.2.2.2.2.2.1, .int m_s.2.2.2.2.2.2.1, .int m_s.2.2.2.2.2.2.2.1, .int m_s.2.2.2.2.2.2.2.2.1, .long m_s.2.2.2.2.2.2.2.2.2, .ref a4, g14, .ref a5, .ref a6, .int m_h.2.2.1, .int m_h.2.2.2, g15, g16, g17, g18, g19, g20, g21, g22, g23])) :: bX11 a2 uq kq q_q ([(a3, .inl (cB25, 900, .inl m_s.1)), (a4, .inl (cB26, 26, .inl m_v)), (a5, .inl (cB27, 416, .inl m_h.1)), (a6, .inl (cB28, 78, .inl m_h.2.1))])) [0, 1, 2, 3, 4, 5, 6, 7, 8, 9, 10, 11, 12, 13, 14, 15, 16, 17, 18, 19] hP hD (by decide) rfl
        have hK9 := hK.sub (tys' := []) [] rfl
        rw [hQQ]
        exact W.iret (v := q_q.1) hx hb hr (fun t ht hW => ⟨⟨q_q.1, (), rfl, rfl, by rw [ht]; exact hP9, va_K.moved hW.alike hK9, hD9⟩, hS.F ht⟩) hS.2.2 (zat zrX12_size_0_ok 25 rfl)
      have h := (if_neg c38_0).symm.trans h
      by_cases c38_1 : k1 = 1
      · have h := (if_pos c38_1).symm.trans h
        refine lv_tableIn (tgt := 100) hx hb dX12_size_38 (by rw [c38_1] <;> decide) (by rw [c38_1] <;> decide) (by rw [c38_1] <;> rfl) (by decide) ?_
        refine lv_aload_n hx hb (zat zrX12_size_0_ok 26 rfl) rfl (lv_at hl 0 rfl) ?_
        refine va_get (D := (dC, dI)) (ci := 9) (v := .ref a2) (C := RX12) (T := TX12) (N := 30) hx hb hts ifX12_size_X12 hown hK hP 0 rfl rfl 3 (by decide) (hts (.fieldLink RX12 299 "HookPierModel" "pier" "LHookPierModel$Pier;") (List.mem_of_getElem? (i := 5) rfl)) (fun _ h9 => h9) rfl (zat zrX12_size_0_ok 27 rfl) ?_
        refine va_getN (D := (dC, dI)) (ci := 8) (v := .int q_q.2.1) (C := RX11) (T := TX11) (N := 24) hx hb hts ifX12_size_X11 hown hK hP 1 rfl rfl 1 (by decide) (va_Nw.use rfl (hN.1 (.fieldLinkNest RX12 207 "HookPierModel$Pier" "deep" "I" "HookPierModel") (List.mem_of_getElem? (i := 23) rfl))) (fun _ h9 => h9) rfl (zat zrX12_size_0_ok 28 rfl) ?_
        obtain rfl := h
        obtain ⟨hP9, hD9⟩ := pd_sub ((a0, .inr (9, [.int 0, .int m_t.2.1, .int m_t.2.2, .ref a2, g13, .ref a3, .int m_s.2.1, .int m_s.2.2.1, .int m_s.2.2.2.1, .int m_s.2.2.2.2.1, .int m_s.2.2.2.2.2.1, .int m_s.2.2.2.2.2.2.1, .int m_s.2.2.2.2.2.2.2.1, .int m_s.2.2.2.2.2.2.2.2.1, .long m_s.2.2.2.2.2.2.2.2.2, .ref a4, g14, .ref a5, .ref a6, .int m_h.2.2.1, .int m_h.2.2.2, g15, g16, g17, g18, g19, g20, g21, g22, g23])) :: bX11 a2 uq kq q_q ([(a3, .inl (cB25, 900, .inl m_s.1)), (a4, .inl (cB26, 26, .inl m_v)), (a5, .inl (cB27, 416, .inl m_h.1)), (a6, .inl (cB28, 78, .inl m_h.2.1))])) [0, 1, 2, 3, 4, 5, 6, 7, 8, 9, 10, 11, 12, 13, 14, 15, 16, 17, 18, 19] hP hD (by decide) rfl
        have hK9 := hK.sub (tys' := []) [] rfl
        rw [hQQ]
        exact W.iret (v := q_q.2.1) hx hb hr (fun t ht hW => ⟨⟨q_q.2.1, (), rfl, rfl, by rw [ht]; exact hP9, va_K.moved hW.alike hK9, hD9⟩, hS.F ht⟩) hS.2.2 (zat zrX12_size_0_ok 29 rfl)
      have h := (if_neg c38_1).symm.trans h
      by_cases c38_2 : k1 = 2
      · have h := (if_pos c38_2).symm.trans h
        refine lv_tableIn (tgt := 108) hx hb dX12_size_38 (by rw [c38_2] <;> decide) (by rw [c38_2] <;> decide) (by rw [c38_2] <;> rfl) (by decide) ?_
        refine lv_aload_n hx hb (zat zrX12_size_0_ok 30 rfl) rfl (lv_at hl 0 rfl) ?_
        refine va_get (D := (dC, dI)) (ci := 9) (v := .ref a2) (C := RX12) (T := TX12) (N := 30) hx hb hts ifX12_size_X12 hown hK hP 0 rfl rfl 3 (by decide) (hts (.fieldLink RX12 299 "HookPierModel" "pier" "LHookPierModel$Pier;") (List.mem_of_getElem? (i := 5) rfl)) (fun _ h9 => h9) rfl (zat zrX12_size_0_ok 31 rfl) ?_
        refine va_getN (D := (dC, dI)) (ci := 8) (v := .int q_q.2.2.2.2.1) (C := RX11) (T := TX11) (N := 24) hx hb hts ifX12_size_X11 hown hK hP 1 rfl rfl 4 (by decide) (va_Nw.use rfl (hN.1 (.fieldLinkNest RX12 175 "HookPierModel$Pier" "baits" "I" "HookPierModel") (List.mem_of_getElem? (i := 26) rfl))) (fun _ h9 => h9) rfl (zat zrX12_size_0_ok 32 rfl) ?_
        obtain rfl := h
        obtain ⟨hP9, hD9⟩ := pd_sub ((a0, .inr (9, [.int 0, .int m_t.2.1, .int m_t.2.2, .ref a2, g13, .ref a3, .int m_s.2.1, .int m_s.2.2.1, .int m_s.2.2.2.1, .int m_s.2.2.2.2.1, .int m_s.2.2.2.2.2.1, .int m_s.2.2.2.2.2.2.1, .int m_s.2.2.2.2.2.2.2.1, .int m_s.2.2.2.2.2.2.2.2.1, .long m_s.2.2.2.2.2.2.2.2.2, .ref a4, g14, .ref a5, .ref a6, .int m_h.2.2.1, .int m_h.2.2.2, g15, g16, g17, g18, g19, g20, g21, g22, g23])) :: bX11 a2 uq kq q_q ([(a3, .inl (cB25, 900, .inl m_s.1)), (a4, .inl (cB26, 26, .inl m_v)), (a5, .inl (cB27, 416, .inl m_h.1)), (a6, .inl (cB28, 78, .inl m_h.2.1))])) [0, 1, 2, 3, 4, 5, 6, 7, 8, 9, 10, 11, 12, 13, 14, 15, 16, 17, 18, 19] hP hD (by decide) rfl
        have hK9 := hK.sub (tys' := []) [] rfl
        rw [hQQ]
        exact W.iret (v := q_q.2.2.2.2.1) hx hb hr (fun t ht hW => ⟨⟨q_q.2.2.2.2.1, (), rfl, rfl, by rw [ht]; exact hP9, va_K.moved hW.alike hK9, hD9⟩, hS.F ht⟩) hS.2.2 (zat zrX12_size_0_ok 33 rfl)
      have h := (if_neg c38_2).symm.trans h
      by_cases c38_3 : k1 = 3
      · have h := (if_pos c38_3).symm.trans h
        refine lv_tableIn (tgt := 116) hx hb dX12_size_38 (by rw [c38_3] <;> decide) (by rw [c38_3] <;> decide) (by rw [c38_3] <;> rfl) (by decide) ?_
        refine lv_aload_n hx hb (zat zrX12_size_0_ok 34 rfl) rfl (lv_at hl 0 rfl) ?_
        refine va_get (D := (dC, dI)) (ci := 9) (v := .ref a2) (C := RX12) (T := TX12) (N := 30) hx hb hts ifX12_size_X12 hown hK hP 0 rfl rfl 3 (by decide) (hts (.fieldLink RX12 299 "HookPierModel" "pier" "LHookPierModel$Pier;") (List.mem_of_getElem? (i := 5) rfl)) (fun _ h9 => h9) rfl (zat zrX12_size_0_ok 35 rfl) ?_
        refine va_getN (D := (dC, dI)) (ci := 8) (v := .int q_q.2.2.2.2.2.1) (C := RX11) (T := TX11) (N := 24) hx hb hts ifX12_size_X11 hown hK hP 1 rfl rfl 5 (by decide) (va_Nw.use rfl (hN.1 (.fieldLinkNest RX12 224 "HookPierModel$Pier" "askers" "I" "HookPierModel") (List.mem_of_getElem? (i := 27) rfl))) (fun _ h9 => h9) rfl (zat zrX12_size_0_ok 36 rfl) ?_
        obtain rfl := h
        obtain ⟨hP9, hD9⟩ := pd_sub ((a0, .inr (9, [.int 0, .int m_t.2.1, .int m_t.2.2, .ref a2, g13, .ref a3, .int m_s.2.1, .int m_s.2.2.1, .int m_s.2.2.2.1, .int m_s.2.2.2.2.1, .int m_s.2.2.2.2.2.1, .int m_s.2.2.2.2.2.2.1, .int m_s.2.2.2.2.2.2.2.1, .int m_s.2.2.2.2.2.2.2.2.1, .long m_s.2.2.2.2.2.2.2.2.2, .ref a4, g14, .ref a5, .ref a6, .int m_h.2.2.1, .int m_h.2.2.2, g15, g16, g17, g18, g19, g20, g21, g22, g23])) :: bX11 a2 uq kq q_q ([(a3, .inl (cB25, 900, .inl m_s.1)), (a4, .inl (cB26, 26, .inl m_v)), (a5, .inl (cB27, 416, .inl m_h.1)), (a6, .inl (cB28, 78, .inl m_h.2.1))])) [0, 1, 2, 3, 4, 5, 6, 7, 8, 9, 10, 11, 12, 13, 14, 15, 16, 17, 18, 19] hP hD (by decide) rfl
        have hK9 := hK.sub (tys' := []) [] rfl
        rw [hQQ]
        exact W.iret (v := q_q.2.2.2.2.2.1) hx hb hr (fun t ht hW => ⟨⟨q_q.2.2.2.2.2.1, (), rfl, rfl, by rw [ht]; exact hP9, va_K.moved hW.alike hK9, hD9⟩, hS.F ht⟩) hS.2.2 (zat zrX12_size_0_ok 37 rfl)
      have h := (if_neg c38_3).symm.trans h
      by_cases c38_4 : k1 = 4
      · have h := (if_pos c38_4).symm.trans h
        refine lv_tableIn (tgt := 124) hx hb dX12_size_38 (by rw [c38_4] <;> decide) (by rw [c38_4] <;> decide) (by rw [c38_4] <;> rfl) (by decide) ?_
        refine lv_aload_n hx hb (zat zrX12_size_0_ok 38 rfl) rfl (lv_at hl 0 rfl) ?_
        refine va_get (D := (dC, dI)) (ci := 9) (v := .ref a2) (C := RX12) (T := TX12) (N := 30) hx hb hts ifX12_size_X12 hown hK hP 0 rfl rfl 3 (by decide) (hts (.fieldLink RX12 299 "HookPierModel" "pier" "LHookPierModel$Pier;") (List.mem_of_getElem? (i := 5) rfl)) (fun _ h9 => h9) rfl (zat zrX12_size_0_ok 39 rfl) ?_
        refine va_getN (D := (dC, dI)) (ci := 8) (v := .int q_q.2.2.2.2.2.2.1) (C := RX11) (T := TX11) (N := 24) hx hb hts ifX12_size_X11 hown hK hP 1 rfl rfl 6 (by decide) (va_Nw.use rfl (hN.1 (.fieldLinkNest RX12 231 "HookPierModel$Pier" "answers" "I" "HookPierModel") (List.mem_of_getElem? (i := 28) rfl))) (fun _ h9 => h9) rfl (zat zrX12_size_0_ok 40 rfl) ?_
        obtain rfl := h
        obtain ⟨hP9, hD9⟩ := pd_sub ((a0, .inr (9, [.int 0, .int m_t.2.1, .int m_t.2.2, .ref a2, g13, .ref a3, .int m_s.2.1, .int m_s.2.2.1, .int m_s.2.2.2.1, .int m_s.2.2.2.2.1, .int m_s.2.2.2.2.2.1, .int m_s.2.2.2.2.2.2.1, .int m_s.2.2.2.2.2.2.2.1, .int m_s.2.2.2.2.2.2.2.2.1, .long m_s.2.2.2.2.2.2.2.2.2, .ref a4, g14, .ref a5, .ref a6, .int m_h.2.2.1, .int m_h.2.2.2, g15, g16, g17, g18, g19, g20, g21, g22, g23])) :: bX11 a2 uq kq q_q ([(a3, .inl (cB25, 900, .inl m_s.1)), (a4, .inl (cB26, 26, .inl m_v)), (a5, .inl (cB27, 416, .inl m_h.1)), (a6, .inl (cB28, 78, .inl m_h.2.1))])) [0, 1, 2, 3, 4, 5, 6, 7, 8, 9, 10, 11, 12, 13, 14, 15, 16, 17, 18, 19] hP hD (by decide) rfl
        have hK9 := hK.sub (tys' := []) [] rfl
        rw [hQQ]
        exact W.iret (v := q_q.2.2.2.2.2.2.1) hx hb hr (fun t ht hW => ⟨⟨q_q.2.2.2.2.2.2.1, (), rfl, rfl, by rw [ht]; exact hP9, va_K.moved hW.alike hK9, hD9⟩, hS.F ht⟩) hS.2.2 (zat zrX12_size_0_ok 41 rfl)
      have h := (if_neg c38_4).symm.trans h
      by_cases c38_5 : k1 = 5
      · have h := (if_pos c38_5).symm.trans h
        refine lv_tableIn (tgt := 132) hx hb dX12_size_38 (by rw [c38_5] <;> decide) (by rw [c38_5] <;> decide) (by rw [c38_5] <;> rfl) (by decide) ?_
        refine lv_aload_n hx hb (zat zrX12_size_0_ok 42 rfl) rfl (lv_at hl 0 rfl) ?_
        refine va_get (D := (dC, dI)) (ci := 9) (v := .ref a2) (C := RX12) (T := TX12) (N := 30) hx hb hts ifX12_size_X12 hown hK hP 0 rfl rfl 3 (by decide) (hts (.fieldLink RX12 299 "HookPierModel" "pier" "LHookPierModel$Pier;") (List.mem_of_getElem? (i := 5) rfl)) (fun _ h9 => h9) rfl (zat zrX12_size_0_ok 43 rfl) ?_
        refine va_getN (D := (dC, dI)) (ci := 8) (v := .int q_q.2.2.2.2.2.2.2.1) (C := RX11) (T := TX11) (N := 24) hx hb hts ifX12_size_X11 hown hK hP 1 rfl rfl 7 (by decide) (va_Nw.use rfl (hN.1 (.fieldLinkNest RX12 271 "HookPierModel$Pier" "bites" "I" "HookPierModel") (List.mem_of_getElem? (i := 29) rfl))) (fun _ h9 => h9) rfl (zat zrX12_size_0_ok 44 rfl) ?_
        obtain rfl := h
        obtain ⟨hP9, hD9⟩ := pd_sub ((a0, .inr (9, [.int 0, .int m_t.2.1, .int m_t.2.2, .ref a2, g13, .ref a3, .int m_s.2.1, .int m_s.2.2.1, .int m_s.2.2.2.1, .int m_s.2.2.2.2.1, .int m_s.2.2.2.2.2.1, .int m_s.2.2.2.2.2.2.1, .int m_s.2.2.2.2.2.2.2.1, .int m_s.2.2.2.2.2.2.2.2.1, .long m_s.2.2.2.2.2.2.2.2.2, .ref a4, g14, .ref a5, .ref a6, .int m_h.2.2.1, .int m_h.2.2.2, g15, g16, g17, g18, g19, g20, g21, g22, g23])) :: bX11 a2 uq kq q_q ([(a3, .inl (cB25, 900, .inl m_s.1)), (a4, .inl (cB26, 26, .inl m_v)), (a5, .inl (cB27, 416, .inl m_h.1)), (a6, .inl (cB28, 78, .inl m_h.2.1))])) [0, 1, 2, 3, 4, 5, 6, 7, 8, 9, 10, 11, 12, 13, 14, 15, 16, 17, 18, 19] hP hD (by decide) rfl
        have hK9 := hK.sub (tys' := []) [] rfl
        rw [hQQ]
        exact W.iret (v := q_q.2.2.2.2.2.2.2.1) hx hb hr (fun t ht hW => ⟨⟨q_q.2.2.2.2.2.2.2.1, (), rfl, rfl, by rw [ht]; exact hP9, va_K.moved hW.alike hK9, hD9⟩, hS.F ht⟩) hS.2.2 (zat zrX12_size_0_ok 45 rfl)
      have h := (if_neg c38_5).symm.trans h
      by_cases c38_6 : k1 = 6
      · have h := (if_pos c38_6).symm.trans h
        refine lv_tableIn (tgt := 140) hx hb dX12_size_38 (by rw [c38_6] <;> decide) (by rw [c38_6] <;> decide) (by rw [c38_6] <;> rfl) (by decide) ?_
        refine lv_aload_n hx hb (zat zrX12_size_0_ok 46 rfl) rfl (lv_at hl 0 rfl) ?_
        refine va_get (D := (dC, dI)) (ci := 9) (v := .ref a4) (C := RX12) (T := TX12) (N := 30) hx hb hts ifX12_size_X12 hown hK hP 0 rfl rfl 15 (by decide) (hts (.fieldLink RX12 17 "HookPierModel" "v" "[I") (List.mem_of_getElem? (i := 6) rfl)) (fun _ h9 => h9) rfl (zat zrX12_size_0_ok 47 rfl) ?_
        refine lv_bipush (v := 23) hx hb (zat zrX12_size_0_ok 48 rfl) (by decide) ?_
        refine va_iald hx hb hK hP 17 15 rfl rfl (by unfold vp_in; decide) (zat zrX12_size_0_ok 49 rfl) ?_
        obtain rfl := h
        obtain ⟨hP9, hD9⟩ := pd_sub ((a0, .inr (9, [.int 0, .int m_t.2.1, .int m_t.2.2, .ref a2, g13, .ref a3, .int m_s.2.1, .int m_s.2.2.1, .int m_s.2.2.2.1, .int m_s.2.2.2.2.1, .int m_s.2.2.2.2.2.1, .int m_s.2.2.2.2.2.2.1, .int m_s.2.2.2.2.2.2.2.1, .int m_s.2.2.2.2.2.2.2.2.1, .long m_s.2.2.2.2.2.2.2.2.2, .ref a4, g14, .ref a5, .ref a6, .int m_h.2.2.1, .int m_h.2.2.2, g15, g16, g17, g18, g19, g20, g21, g22, g23])) :: bX11 a2 uq kq q_q ([(a3, .inl (cB25, 900, .inl m_s.1)), (a4, .inl (cB26, 26, .inl m_v)), (a5, .inl (cB27, 416, .inl m_h.1)), (a6, .inl (cB28, 78, .inl m_h.2.1))])) [0, 1, 2, 3, 4, 5, 6, 7, 8, 9, 10, 11, 12, 13, 14, 15, 16, 17, 18, 19] hP hD (by decide) rfl
        have hK9 := hK.sub (tys' := []) [] rfl
        rw [hQQ]
        exact W.iret (v := (m_v ((23 : Int32)).toNatClampNeg)) hx hb hr (fun t ht hW => ⟨⟨(m_v ((23 : Int32)).toNatClampNeg), (), rfl, rfl, by rw [ht]; exact hP9, va_K.moved hW.alike hK9, hD9⟩, hS.F ht⟩) hS.2.2 (zat zrX12_size_0_ok 50 rfl)
      have h := (if_neg c38_6).symm.trans h
      by_cases c38_7 : k1 = 7
      · have h := (if_pos c38_7).symm.trans h
        refine lv_tableIn (tgt := 148) hx hb dX12_size_38 (by rw [c38_7] <;> decide) (by rw [c38_7] <;> decide) (by rw [c38_7] <;> rfl) (by decide) ?_
        refine lv_aload_n hx hb (zat zrX12_size_0_ok 51 rfl) rfl (lv_at hl 0 rfl) ?_
        refine va_get (D := (dC, dI)) (ci := 9) (v := .ref a4) (C := RX12) (T := TX12) (N := 30) hx hb hts ifX12_size_X12 hown hK hP 0 rfl rfl 15 (by decide) (hts (.fieldLink RX12 17 "HookPierModel" "v" "[I") (List.mem_of_getElem? (i := 6) rfl)) (fun _ h9 => h9) rfl (zat zrX12_size_0_ok 52 rfl) ?_
        refine lv_bipush (v := 24) hx hb (zat zrX12_size_0_ok 53 rfl) (by decide) ?_
        refine va_iald hx hb hK hP 17 15 rfl rfl (by unfold vp_in; decide) (zat zrX12_size_0_ok 54 rfl) ?_
        obtain rfl := h
        obtain ⟨hP9, hD9⟩ := pd_sub ((a0, .inr (9, [.int 0, .int m_t.2.1, .int m_t.2.2, .ref a2, g13, .ref a3, .int m_s.2.1, .int m_s.2.2.1, .int m_s.2.2.2.1, .int m_s.2.2.2.2.1, .int m_s.2.2.2.2.2.1, .int m_s.2.2.2.2.2.2.1, .int m_s.2.2.2.2.2.2.2.1, .int m_s.2.2.2.2.2.2.2.2.1, .long m_s.2.2.2.2.2.2.2.2.2, .ref a4, g14, .ref a5, .ref a6, .int m_h.2.2.1, .int m_h.2.2.2, g15, g16, g17, g18, g19, g20, g21, g22, g23])) :: bX11 a2 uq kq q_q ([(a3, .inl (cB25, 900, .inl m_s.1)), (a4, .inl (cB26, 26, .inl m_v)), (a5, .inl (cB27, 416, .inl m_h.1)), (a6, .inl (cB28, 78, .inl m_h.2.1))])) [0, 1, 2, 3, 4, 5, 6, 7, 8, 9, 10, 11, 12, 13, 14, 15, 16, 17, 18, 19] hP hD (by decide) rfl
        have hK9 := hK.sub (tys' := []) [] rfl
        rw [hQQ]
        exact W.iret (v := (m_v ((24 : Int32)).toNatClampNeg)) hx hb hr (fun t ht hW => ⟨⟨(m_v ((24 : Int32)).toNatClampNeg), (), rfl, rfl, by rw [ht]; exact hP9, va_K.moved hW.alike hK9, hD9⟩, hS.F ht⟩) hS.2.2 (zat zrX12_size_0_ok 55 rfl)
      have h := (if_neg c38_7).symm.trans h
      by_cases c38_8 : k1 = 8
      · have h := (if_pos c38_8).symm.trans h
        refine lv_tableIn (tgt := 156) hx hb dX12_size_38 (by rw [c38_8] <;> decide) (by rw [c38_8] <;> decide) (by rw [c38_8] <;> rfl) (by decide) ?_
        refine lv_aload_n hx hb (zat zrX12_size_0_ok 56 rfl) rfl (lv_at hl 0 rfl) ?_
        refine va_get (D := (dC, dI)) (ci := 9) (v := .ref a4) (C := RX12) (T := TX12) (N := 30) hx hb hts ifX12_size_X12 hown hK hP 0 rfl rfl 15 (by decide) (hts (.fieldLink RX12 17 "HookPierModel" "v" "[I") (List.mem_of_getElem? (i := 6) rfl)) (fun _ h9 => h9) rfl (zat zrX12_size_0_ok 57 rfl) ?_
        refine lv_bipush (v := 25) hx hb (zat zrX12_size_0_ok 58 rfl) (by decide) ?_
        refine va_iald hx hb hK hP 17 15 rfl rfl (by unfold vp_in; decide) (zat zrX12_size_0_ok 59 rfl) ?_
        obtain rfl := h
        obtain ⟨hP9, hD9⟩ := pd_sub ((a0, .inr (9, [.int 0, .int m_t.2.1, .int m_t.2.2, .ref a2, g13, .ref a3, .int m_s.2.1, .int m_s.2.2.1, .int m_s.2.2.2.1, .int m_s.2.2.2.2.1, .int m_s.2.2.2.2.2.1, .int m_s.2.2.2.2.2.2.1, .int m_s.2.2.2.2.2.2.2.1, .int m_s.2.2.2.2.2.2.2.2.1, .long m_s.2.2.2.2.2.2.2.2.2, .ref a4, g14, .ref a5, .ref a6, .int m_h.2.2.1, .int m_h.2.2.2, g15, g16, g17, g18, g19, g20, g21, g22, g23])) :: bX11 a2 uq kq q_q ([(a3, .inl (cB25, 900, .inl m_s.1)), (a4, .inl (cB26, 26, .inl m_v)), (a5, .inl (cB27, 416, .inl m_h.1)), (a6, .inl (cB28, 78, .inl m_h.2.1))])) [0, 1, 2, 3, 4, 5, 6, 7, 8, 9, 10, 11, 12, 13, 14, 15, 16, 17, 18, 19] hP hD (by decide) rfl
        have hK9 := hK.sub (tys' := []) [] rfl
        rw [hQQ]
        exact W.iret (v := (m_v ((25 : Int32)).toNatClampNeg)) hx hb hr (fun t ht hW => ⟨⟨(m_v ((25 : Int32)).toNatClampNeg), (), rfl, rfl, by rw [ht]; exact hP9, va_K.moved hW.alike hK9, hD9⟩, hS.F ht⟩) hS.2.2 (zat zrX12_size_0_ok 60 rfl)
      have h := (if_neg c38_8).symm.trans h
      by_cases c38_9 : k1 = 9
      · have h := (if_pos c38_9).symm.trans h
        refine lv_tableIn (tgt := 164) hx hb dX12_size_38 (by rw [c38_9] <;> decide) (by rw [c38_9] <;> decide) (by rw [c38_9] <;> rfl) (by decide) ?_
        refine lv_aload_n hx hb (zat zrX12_size_0_ok 61 rfl) rfl (lv_at hl 0 rfl) ?_
        refine va_get (D := (dC, dI)) (ci := 9) (v := .int m_h.2.2.1) (C := RX12) (T := TX12) (N := 30) hx hb hts ifX12_size_X12 hown hK hP 0 rfl rfl 19 (by decide) (hts (.fieldLink RX12 301 "HookPierModel" "acts" "I") (List.mem_of_getElem? (i := 7) rfl)) (fun _ h9 => h9) rfl (zat zrX12_size_0_ok 62 rfl) ?_
        obtain rfl := h
        obtain ⟨hP9, hD9⟩ := pd_sub ((a0, .inr (9, [.int 0, .int m_t.2.1, .int m_t.2.2, .ref a2, g13, .ref a3, .int m_s.2.1, .int m_s.2.2.1, .int m_s.2.2.2.1, .int m_s.2.2.2.2.1, .int m_s.2.2.2.2.2.1, .int m_s.2.2.2.2.2.2.1, .int m_s.2.2.2.2.2.2.2.1, .int m_s.2.2.2.2.2.2.2.2.1, .long m_s.2.2.2.2.2.2.2.2.2, .ref a4, g14, .ref a5, .ref a6, .int m_h.2.2.1, .int m_h.2.2.2, g15, g16, g17, g18, g19, g20, g21, g22, g23])) :: bX11 a2 uq kq q_q ([(a3, .inl (cB25, 900, .inl m_s.1)), (a4, .inl (cB26, 26, .inl m_v)), (a5, .inl (cB27, 416, .inl m_h.1)), (a6, .inl (cB28, 78, .inl m_h.2.1))])) [0, 1, 2, 3, 4, 5, 6, 7, 8, 9, 10, 11, 12, 13, 14, 15, 16, 17, 18, 19] hP hD (by decide) rfl
        have hK9 := hK.sub (tys' := []) [] rfl
        rw [hQQ]
        exact W.iret (v := m_h.2.2.1) hx hb hr (fun t ht hW => ⟨⟨m_h.2.2.1, (), rfl, rfl, by rw [ht]; exact hP9, va_K.moved hW.alike hK9, hD9⟩, hS.F ht⟩) hS.2.2 (zat zrX12_size_0_ok 63 rfl)
      have h := (if_neg c38_9).symm.trans h
      refine lv_tableOut (tgt := 169) hx hb dX12_size_38 (by simp only [fa_eq, ltv_0, ltv_1, ltv_2, ltv_3, ltv_4, ltv_5, ltv_6, ltv_7, ltv_8, ltv_9] at c38_0 c38_1 c38_2 c38_3 c38_4 c38_5 c38_6 c38_7 c38_8 c38_9; omega) (by decide) ?_
      refine lv_aload_n hx hb (zat zrX12_size_1_ok 0 rfl) rfl (lv_at hl 0 rfl) ?_
      refine va_get (D := (dC, dI)) (ci := 9) (v := .int m_h.2.2.2) (C := RX12) (T := TX12) (N := 30) hx hb hts ifX12_size_X12 hown hK hP 0 rfl rfl 20 (by decide) (hts (.fieldLink RX12 304 "HookPierModel" "marks" "I") (List.mem_of_getElem? (i := 8) rfl)) (fun _ h9 => h9) rfl (zat zrX12_size_1_ok 1 rfl) ?_
      obtain rfl := h
      obtain ⟨hP9, hD9⟩ := pd_sub ((a0, .inr (9, [.int 0, .int m_t.2.1, .int m_t.2.2, .ref a2, g13, .ref a3, .int m_s.2.1, .int m_s.2.2.1, .int m_s.2.2.2.1, .int m_s.2.2.2.2.1, .int m_s.2.2.2.2.2.1, .int m_s.2.2.2.2.2.2.1, .int m_s.2.2.2.2.2.2.2.1, .int m_s.2.2.2.2.2.2.2.2.1, .long m_s.2.2.2.2.2.2.2.2.2, .ref a4, g14, .ref a5, .ref a6, .int m_h.2.2.1, .int m_h.2.2.2, g15, g16, g17, g18, g19, g20, g21, g22, g23])) :: bX11 a2 uq kq q_q ([(a3, .inl (cB25, 900, .inl m_s.1)), (a4, .inl (cB26, 26, .inl m_v)), (a5, .inl (cB27, 416, .inl m_h.1)), (a6, .inl (cB28, 78, .inl m_h.2.1))])) [0, 1, 2, 3, 4, 5, 6, 7, 8, 9, 10, 11, 12, 13, 14, 15, 16, 17, 18, 19] hP hD (by decide) rfl
      have hK9 := hK.sub (tys' := []) [] rfl
      rw [hQQ]
      exact W.iret (v := m_h.2.2.2) hx hb hr (fun t ht hW => ⟨⟨m_h.2.2.2, (), rfl, rfl, by rw [ht]; exact hP9, va_K.moved hW.alike hK9, hD9⟩, hS.F ht⟩) hS.2.2 (zat zrX12_size_1_ok 2 rfl)
    · have h := (if_pos c23).symm.trans h
      refine lv_iconst (v := (-1)) hx hb (zat zrX12_size_0_ok 14 rfl) (by decide) ?_
      obtain rfl := h
      obtain ⟨hP9, hD9⟩ := pd_sub ((a0, .inr (9, [.int 0, .int m_t.2.1, .int m_t.2.2, .ref a2, g13, .ref a3, .int m_s.2.1, .int m_s.2.2.1, .int m_s.2.2.2.1, .int m_s.2.2.2.2.1, .int m_s.2.2.2.2.2.1, .int m_s.2.2.2.2.2.2.1, .int m_s.2.2.2.2.2.2.2.1, .int m_s.2.2.2.2.2.2.2.2.1, .long m_s.2.2.2.2.2.2.2.2.2, .ref a4, g14, .ref a5, .ref a6, .int m_h.2.2.1, .int m_h.2.2.2, g15, g16, g17, g18, g19, g20, g21, g22, g23])) :: bX11 a2 uq kq q_q ([(a3, .inl (cB25, 900, .inl m_s.1)), (a4, .inl (cB26, 26, .inl m_v)), (a5, .inl (cB27, 416, .inl m_h.1)), (a6, .inl (cB28, 78, .inl m_h.2.1))])) [0, 1, 2, 3, 4, 5, 6, 7, 8, 9, 10, 11, 12, 13, 14, 15, 16, 17, 18, 19] hP hD (by decide) rfl
      have hK9 := hK.sub (tys' := []) [] rfl
      rw [hQQ]
      exact W.iret (v := (-1 : Int32)) hx hb hr (fun t ht hW => ⟨⟨(-1 : Int32), (), rfl, rfl, by rw [ht]; exact hP9, va_K.moved hW.alike hK9, hD9⟩, hS.F ht⟩) hS.2.2 (zat zrX12_size_0_ok 15 rfl)
  · have h := (if_pos c8).symm.trans h
    refine lv_aload_n hx hb (zat zrX12_size_0_ok 6 rfl) rfl (lv_at hl 0 rfl) ?_
    refine va_get (D := (dC, dI)) (ci := 9) (v := .int m_s.2.1) (C := RX12) (T := TX12) (N := 30) hx hb hts ifX12_size_X12 hown hK hP 0 rfl rfl 6 (by decide) (hts (.fieldLink RX12 292 "HookPierModel" "taped" "I") (List.mem_of_getElem? (i := 9) rfl)) (fun _ h9 => h9) rfl (zat zrX12_size_0_ok 7 rfl) ?_
    obtain rfl := h
    obtain ⟨hP9, hD9⟩ := pd_sub ((a0, .inr (9, [.int 0, .int m_t.2.1, .int m_t.2.2, .ref a2, g13, .ref a3, .int m_s.2.1, .int m_s.2.2.1, .int m_s.2.2.2.1, .int m_s.2.2.2.2.1, .int m_s.2.2.2.2.2.1, .int m_s.2.2.2.2.2.2.1, .int m_s.2.2.2.2.2.2.2.1, .int m_s.2.2.2.2.2.2.2.2.1, .long m_s.2.2.2.2.2.2.2.2.2, .ref a4, g14, .ref a5, .ref a6, .int m_h.2.2.1, .int m_h.2.2.2, g15, g16, g17, g18, g19, g20, g21, g22, g23])) :: bX11 a2 uq kq q_q ([(a3, .inl (cB25, 900, .inl m_s.1)), (a4, .inl (cB26, 26, .inl m_v)), (a5, .inl (cB27, 416, .inl m_h.1)), (a6, .inl (cB28, 78, .inl m_h.2.1))])) [0, 1, 2, 3, 4, 5, 6, 7, 8, 9, 10, 11, 12, 13, 14, 15, 16, 17, 18, 19] hP hD (by decide) rfl
    have hK9 := hK.sub (tys' := []) [] rfl
    rw [hQQ]
    exact W.iret (v := m_s.2.1) hx hb hr (fun t ht hW => ⟨⟨m_s.2.1, (), rfl, rfl, by rw [ht]; exact hP9, va_K.moved hW.alike hK9, hD9⟩, hS.F ht⟩) hS.2.2 (zat zrX12_size_0_ok 8 rfl)
noncomputable def zrX12_trouble_0 : List ZR := zc 0 true (.aload_n 0) 1 (zc 1 true (.iconst 0) 1 (zc 2 true (.putfield 36) 3 (zc 5 true (.aload_n 0) 1 (zc 6 true (.getfield 39) 3 (zc 9 true (.ireturn) 1 ([]))))))
theorem zrX12_trouble_0_ok : zck 0 ((zby cX12_trouble).drop 0) zrX12_trouble_0 = true := by decide +kernel
def vfX12_trouble : List Cond := List.cons (.code yX12_trouble cX12_trouble 1 (some .int)) (apW [.fieldLink RX12 36 "HookPierModel" "thrown" "I", .fieldLink RX12 39 "HookPierModel" "trouble" "I"] (wsX120))
theorem ifX12_trouble_X12 : ∀ w ∈ wsX120, w ∈ vfX12_trouble := fun _ h => (List.mem_cons_of_mem _ (List.mem_append_right _ h))
theorem qfX12_trouble : Good vfX12_trouble := gd_cons (by decide +kernel) (gd_app (gd_dec (by decide +kernel) : Good [.fieldLink RX12 36 "HookPierModel" "thrown" "I", .fieldLink RX12 39 "HookPierModel" "trouble" "I"]) qsX12)
set_option maxHeartbeats 2000000 in
set_option maxRecDepth 100000 in
theorem kfX12_trouble (l : Launch) (dC : Nat → ClassId) (dI : Nat → Nat → Nat) (a0 : Nat) (m_t : TX12_t) (g2 : Value) (g3 : Value) (g4 : Value) (g5 : Value) (g6 : Value) (g7 : Value) (g8 : Value) (g9 : Value) (g10 : Value) (g11 : Value) (g12 : Value) (g13 : Value) (g14 : Value) (g15 : Value) (g16 : Value) (g17 : Value) (g18 : Value) (g19 : Value) (g20 : Value) (g21 : Value) (g22 : Value) (g23 : Value) (g24 : Value) (g25 : Value) (g26 : Value) (g27 : Value) (g28 : Value) (sz : Nat) (out : (Int32 × TX12_t)) (h : f_X12_trouble m_t = out) : KCi l yX12_trouble vfX12_trouble ({ frames := 0, cells := 0, slots := 0, locals := 0 }) (dC, dI) [.ref a0] sz ([(a0, .inr (9, [.int m_t.1, .int m_t.2.1, .int m_t.2.2, g2, g3, g4, g5, g6, g7, g8, g9, g10, g11, g12, g13, g14, g15, g16, g17, g18, g19, g20, g21, g22, g23, g24, g25, g26, g27, g28]))]) ([]) (fun (r : Int32) _ => r = out.1) ([(a0, .inr (9, [.int out.2.1, .int out.2.2.1, .int out.2.2.2, g2, g3, g4, g5, g6, g7, g8, g9, g10, g11, g12, g13, g14, g15, g16, g17, g18, g19, g20, g21, g22, g23, g24, g25, g26, g27, g28]))]) 0 0 := by
  refine Met.ofW (cc := cX12_trouble) (maxL := 1) (ret := (some .int)) (by decide) rfl ?_
  intro p e s m args below meth c s₁ B0 hml hv
  obtain ⟨rfl, hsz, hP, hK, hD0, hN⟩ := hv
  have hx := B0.exec
  have hb := B0.bytes
  have hr := B0.returns
  have hts := atoms_spec (ws := vfX12_trouble) B0.pre
  have hown : s.vm.findClass RX12 = some m.cls := findClass_of_methodNamed B0.named
  have hlocks := B0.notSynchronized
  subst hsz
  have hD := hD0.self (sz := s.heap.size)
  generalize hAe : va_A ([(a0, .inr (9, [.int m_t.1, .int m_t.2.1, .int m_t.2.2, g2, g3, g4, g5, g6, g7, g8, g9, g10, g11, g12, g13, g14, g15, g16, g17, g18, g19, g20, g21, g22, g23, g24, g25, g26, g27, g28]))]) s.heap.size = A at hD ⊢
  have hA : ∀ q : Nat, s.heap.size ≤ q → A q := fun q h => by rw [← hAe]; exact Or.inr h
  have hS : va_S A s.heap s.heap [] := va_S.rf
  have hP : va_P (dC, dI) vwCl ([(a0, .inr (9, [.int m_t.1, .int m_t.2.1, .int m_t.2.2, g2, g3, g4, g5, g6, g7, g8, g9, g10, g11, g12, g13, g14, g15, g16, g17, g18, g19, g20, g21, g22, g23, g24, g25, g26, g27, g28]))]) s.heap := hP
  have hl := lv_entry ([.ref a0]) (n := 1) (Nat.le_of_ble_eq_true rfl)
  rw [lg_entry_eq]
  generalize (lg_sl ([.ref a0]) ++ List.replicate (1 - (lg_sl ([.ref a0])).length) Slot.unset).toArray = ls at hl ⊢
  have hl : lv_has ls 1 [(0, .ref a0)] := hl
  refine W_q (fun QQ hQQ => ?_)
  rw [f_X12_trouble] at h
  refine lv_aload_n hx hb (zat zrX12_trouble_0_ok 0 rfl) rfl (lv_at hl 0 rfl) ?_
  refine lv_iconst (v := 0) hx hb (zat zrX12_trouble_0_ok 1 rfl) (by decide) ?_
  refine va_put (D := (dC, dI)) (ci := 9) (v := .int 0) (ty := .int) (C := RX12) (T := TX12) (N := 30) hx hb hts ifX12_trouble_X12 tyX12 tyX12_ok nmX12 hown hK hP hD hS 0 rfl rfl 0 (by decide) (hts (.fieldLink RX12 36 "HookPierModel" "thrown" "I") (List.mem_of_getElem? (i := 1) rfl)) (fun _ h9 => h9) rfl (by decide +kernel) rfl rfl (Nat.le_of_ble_eq_true rfl) (zat zrX12_trouble_0_ok 2 rfl) (fun H locs hP hD hS => ?_)
  obtain ⟨hP, hD⟩ := pd_mk ([(a0, .inr (9, [.int 0, .int m_t.2.1, .int m_t.2.2, g2, g3, g4, g5, g6, g7, g8, g9, g10, g11, g12, g13, g14, g15, g16, g17, g18, g19, g20, g21, g22, g23, g24, g25, g26, g27, g28]))]) hP hD
  refine lv_aload_n hx hb (zat zrX12_trouble_0_ok 3 rfl) rfl (lv_at hl 0 rfl) ?_
  refine va_get (D := (dC, dI)) (ci := 9) (v := .int m_t.2.1) (C := RX12) (T := TX12) (N := 30) hx hb hts ifX12_trouble_X12 hown hK hP 0 rfl rfl 1 (by decide) (hts (.fieldLink RX12 39 "HookPierModel" "trouble" "I") (List.mem_of_getElem? (i := 2) rfl)) (fun _ h9 => h9) rfl (zat zrX12_trouble_0_ok 4 rfl) ?_
  obtain rfl := h
  obtain ⟨hP9, hD9⟩ := pd_sub ([(a0, .inr (9, [.int 0, .int m_t.2.1, .int m_t.2.2, g2, g3, g4, g5, g6, g7, g8, g9, g10, g11, g12, g13, g14, g15, g16, g17, g18, g19, g20, g21, g22, g23, g24, g25, g26, g27, g28]))]) [0] hP hD (by decide) rfl
  have hK9 := hK.sub (tys' := []) [] rfl
  rw [hQQ]
  exact W.iret (v := m_t.2.1) hx hb hr (fun t ht hW => ⟨⟨m_t.2.1, (), rfl, rfl, by rw [ht]; exact hP9, va_K.moved hW.alike hK9, hD9⟩, hS.F ht⟩) hS.2.2 (zat zrX12_trouble_0_ok 5 rfl)
