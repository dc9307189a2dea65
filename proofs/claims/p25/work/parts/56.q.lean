noncomputable def zrX12_load_0 : List ZR := zc 0 true (.aload_n 0) 1 (zc 1 true (.iconst 0) 1 (zc 2 true (.putfield 36) 3 (zc 5 true (.aload_n 0) 1 (zc 6 true (.iload_n 1) 1 (zc 7 true (.invokevirtual 445) 3 (zc 10 true (.istore_n 2) 1 (zc 11 true (.iload_n 2) 1 (zc 12 true (.ifCond .le 9) 3 (zc 15 true (.aload_n 0) 1 (zc 16 true (.iload_n 2) 1 (zc 17 true (.invokevirtual 42) 3 (zc 20 true (.ireturn) 1 (zc 21 true (.aload_n 0) 1 (zc 22 true (.iload_n 1) 1 (zc 23 true (.invokevirtual 448) 3 (zc 26 true (.aload_n 0) 1 (zc 27 true (.aload_n 0) 1 (zc 28 true (.getfield 436) 3 (zc 31 true (.invokevirtual 46) 3 (zc 34 true (.ireturn) 1 ([])))))))))))))))))))))
theorem zrX12_load_0_ok : zck 0 ((zby cX12_load).drop 0) zrX12_load_0 = true := by decide +kernel
def vfX12_load : List Cond := List.cons (.code yX12_load cX12_load 3 (some .int)) (apW [.fieldLink RX12 36 "HookPierModel" "thrown" "I", .methodLink RX12 445 yX12_refusesLoad, .instanceMethod yX12_refusesLoad, .selects RX12 yX12_refusesLoad yX12_refusesLoad, .initialized RX12, .methodLink RX12 448 yX12_loads, .instanceMethod yX12_loads, .selects RX12 yX12_loads yX12_loads, .fieldLink RX12 436 "HookPierModel" "loaded" "I", .methodLink RX12 46 yX12_good, .instanceMethod yX12_good, .selects RX12 yX12_good yX12_good, .methodLink RX12 42 yX12_refused, .instanceMethod yX12_refused, .selects RX12 yX12_refused yX12_refused] (apW wsX120 (apW vfX12_refusesLoad (apW vfX12_loads (apW vfX12_good (vfX12_refused))))))
theorem ifX12_load_X12 : ∀ w ∈ wsX120, w ∈ vfX12_load := fun _ h => (List.mem_cons_of_mem _ (List.mem_append_right _ (List.mem_append_left _ h)))
theorem qfX12_load : Good vfX12_load := gd_cons (by decide +kernel) (gd_app (gd_dec (by decide +kernel) : Good [.fieldLink RX12 36 "HookPierModel" "thrown" "I", .methodLink RX12 445 yX12_refusesLoad, .instanceMethod yX12_refusesLoad, .selects RX12 yX12_refusesLoad yX12_refusesLoad, .initialized RX12, .methodLink RX12 448 yX12_loads, .instanceMethod yX12_loads, .selects RX12 yX12_loads yX12_loads, .fieldLink RX12 436 "HookPierModel" "loaded" "I", .methodLink RX12 46 yX12_good, .instanceMethod yX12_good, .selects RX12 yX12_good yX12_good, .methodLink RX12 42 yX12_refused, .instanceMethod yX12_refused, .selects RX12 yX12_refused yX12_refused]) (gd_app qsX12 (gd_app qfX12_refusesLoad (gd_app qfX12_loads (gd_app qfX12_good qfX12_refused)))))
theorem gfX12_load_0 : GoodIn vfX12_load (wsV RX12 445 RX12 yX12_refusesLoad vfX12_refusesLoad) := goodIn_app (goodIn_r [.methodLink RX12 445 yX12_refusesLoad, .instanceMethod yX12_refusesLoad, .selects RX12 yX12_refusesLoad yX12_refusesLoad, .initialized RX12] [2, 3, 4, 5] rfl (by decide +kernel)) (goodIn_m (fun _ h => (List.mem_cons_of_mem _ (List.mem_append_right _ (List.mem_append_right _ (List.mem_append_left _ h))))) qfX12_refusesLoad)
theorem gfX12_load_1 : GoodIn vfX12_load (wsV RX12 448 RX12 yX12_loads vfX12_loads) := goodIn_app (goodIn_r [.methodLink RX12 448 yX12_loads, .instanceMethod yX12_loads, .selects RX12 yX12_loads yX12_loads, .initialized RX12] [6, 7, 8, 5] rfl (by decide +kernel)) (goodIn_m (fun _ h => (List.mem_cons_of_mem _ (List.mem_append_right _ (List.mem_append_right _ (List.mem_append_right _ (List.mem_append_left _ h)))))) qfX12_loads)
theorem gfX12_load_2 : GoodIn vfX12_load (wsV RX12 46 RX12 yX12_good vfX12_good) := goodIn_app (goodIn_r [.methodLink RX12 46 yX12_good, .instanceMethod yX12_good, .selects RX12 yX12_good yX12_good, .initialized RX12] [10, 11, 12, 5] rfl (by decide +kernel)) (goodIn_m (fun _ h => (List.mem_cons_of_mem _ (List.mem_append_right _ (List.mem_append_right _ (List.mem_append_right _ (List.mem_append_right _ (List.mem_append_left _ h))))))) qfX12_good)
theorem gfX12_load_3 : GoodIn vfX12_load (wsV RX12 42 RX12 yX12_refused vfX12_refused) := goodIn_app (goodIn_r [.methodLink RX12 42 yX12_refused, .instanceMethod yX12_refused, .selects RX12 yX12_refused yX12_refused, .initialized RX12] [13, 14, 15, 5] rfl (by decide +kernel)) (goodIn_m (fun _ h => (List.mem_cons_of_mem _ (List.mem_append_right _ (List.mem_append_right _ (List.mem_append_right _ (List.mem_append_right _ (List.mem_append_right _ h))))))) qfX12_refused)
set_option maxHeartbeats 2000000 in
set_option maxRecDepth 100000 in
theorem kfX12_load (l : Launch) (dC : Nat → ClassId) (dI : Nat → Nat → Nat) (a0 : Nat) (k1 : Int32) (a2 : Nat) (a3 : Nat) (uq : Nat → Nat) (kq : Nat → ClassId) (m_t : TX12_t) (m_v : TX12_v) (m_k : TX12_k) (g9 : Value) (g10 : Value) (g11 : Value) (g12 : Value) (g13 : Value) (g14 : Value) (g15 : Value) (g16 : Value) (g17 : Value) (g18 : Value) (g19 : Value) (g20 : Value) (g21 : Value) (g22 : Value) (g23 : Value) (g24 : Value) (g25 : Value) (g26 : Value) (g27 : Value) (g28 : Value) (g29 : Value) (g30 : Value) (q_q : TX11_q) (cB32 : ClassId) (sz : Nat) (out : (Int32 × TX12_t × TX12_k)) (h : f_X12_load k1 m_t m_v m_k q_q = some out) : KCi l yX12_load vfX12_load ({ frames := 3, cells := 0, slots := 0, locals := 70 }) (dC, dI) [.ref a0, .int k1] sz ((a0, .inr (9, [.int m_t.1, .int m_t.2.1, .int m_t.2.2, .ref a2, g9, g10, g11, g12, g13, g14, g15, g16, g17, g18, g19, .ref a3, g20, g21, g22, g23, g24, g25, g26, g27, .int m_k.1, .int m_k.2.1, .int m_k.2.2, g28, g29, g30])) :: bX11 a2 uq kq q_q ([(a3, .inl (cB32, 26, .inl m_v))])) (tX11 kq ((cB32, .int) :: [])) (fun (r : Int32) _ => r = out.1) ((a0, .inr (9, [.int out.2.1.1, .int out.2.1.2.1, .int out.2.1.2.2, .ref a2, g9, g10, g11, g12, g13, g14, g15, g16, g17, g18, g19, .ref a3, g20, g21, g22, g23, g24, g25, g26, g27, .int out.2.2.1, .int out.2.2.2.1, .int out.2.2.2.2, g28, g29, g30])) :: bX11 a2 uq kq q_q ([(a3, .inl (cB32, 26, .inl m_v))])) 0 0 := by
  refine Met.ofW (cc := cX12_load) (maxL := 3) (ret := (some .int)) (by decide) rfl ?_
  intro p e s m args below meth c s₁ B0 hml hv
  obtain ⟨rfl, hsz, hP, hK, hD0, hN⟩ := hv
  have hx := B0.exec
  have hb := B0.bytes
  have hr := B0.returns
  have hts := atoms_spec (ws := vfX12_load) B0.pre
  have hown : s.vm.findClass RX12 = some m.cls := findClass_of_methodNamed B0.named
  have hlocks := B0.notSynchronized
  subst hsz
  have hD := hD0.self (sz := s.heap.size)
  generalize hAe : va_A ((a0, .inr (9, [.int m_t.1, .int m_t.2.1, .int m_t.2.2, .ref a2, g9, g10, g11, g12, g13, g14, g15, g16, g17, g18, g19, .ref a3, g20, g21, g22, g23, g24, g25, g26, g27, .int m_k.1, .int m_k.2.1, .int m_k.2.2, g28, g29, g30])) :: bX11 a2 uq kq q_q ([(a3, .inl (cB32, 26, .inl m_v))])) s.heap.size = A at hD ⊢
  have hA : ∀ q : Nat, s.heap.size ≤ q → A q := fun q h => by rw [← hAe]; exact Or.inr h
  have hS : va_S A s.heap s.heap [] := va_S.rf
  have hP : va_P (dC, dI) vwCl ((a0, .inr (9, [.int m_t.1, .int m_t.2.1, .int m_t.2.2, .ref a2, g9, g10, g11, g12, g13, g14, g15, g16, g17, g18, g19, .ref a3, g20, g21, g22, g23, g24, g25, g26, g27, .int m_k.1, .int m_k.2.1, .int m_k.2.2, g28, g29, g30])) :: bX11 a2 uq kq q_q ([(a3, .inl (cB32, 26, .inl m_v))])) s.heap := hP
  have hl := lv_entry ([.ref a0, .int k1]) (n := 3) (Nat.le_of_ble_eq_true rfl)
  rw [lg_entry_eq]
  generalize (lg_sl ([.ref a0, .int k1]) ++ List.replicate (3 - (lg_sl ([.ref a0, .int k1])).length) Slot.unset).toArray = ls at hl ⊢
  have hl : lv_has ls 3 [(0, .ref a0), (1, .int k1)] := hl
  refine W_q (fun QQ hQQ => ?_)
  rw [f_X12_load] at h
  refine lv_aload_n hx hb (zat zrX12_load_0_ok 0 rfl) rfl (lv_at hl 0 rfl) ?_
  refine lv_iconst (v := 0) hx hb (zat zrX12_load_0_ok 1 rfl) (by decide) ?_
  refine va_put (D := (dC, dI)) (ci := 9) (v := .int 0) (ty := .int) (C := RX12) (T := TX12) (N := 30) hx hb hts ifX12_load_X12 tyX12 tyX12_ok nmX12 hown hK hP hD hS 0 rfl rfl 0 (by decide) (hts (.fieldLink RX12 36 "HookPierModel" "thrown" "I") (List.mem_of_getElem? (i := 1) rfl)) (fun _ h9 => h9) rfl (by decide +kernel) rfl rfl (Nat.le_of_ble_eq_true rfl) (zat zrX12_load_0_ok 2 rfl) (fun H locs hP hD hS => ?_)
  obtain ⟨hP, hD⟩ := pd_mk ((a0, .inr (9, [.int 0, .int m_t.2.1, .int m_t.2.2, .ref a2, g9, g10, g11, g12, g13, g14, g15, g16, g17, g18, g19, .ref a3, g20, g21, g22, g23, g24, g25, g26, g27, .int m_k.1, .int m_k.2.1, .int m_k.2.2, g28, g29, g30])) :: bX11 a2 uq kq q_q ([(a3, .inl (cB32, 26, .inl m_v))])) hP hD
  refine lv_aload_n hx hb (zat zrX12_load_0_ok 3 rfl) rfl (lv_at hl 0 rfl) ?_
  refine lv_iload_n hx hb (zat zrX12_load_0_ok 4 rfl) rfl (lv_at hl 1 rfl) ?_
  obtain ⟨o7, eo7⟩ : ∃ o, o = f_X12_refusesLoad k1 := ⟨_, rfl⟩
  have h := nm_of h o7 eo7
  refine ck_i (wc := ([(a0, .inr (9, [.int 0, .int m_t.2.1, .int m_t.2.2, .ref a2, g9, g10, g11, g12, g13, g14, g15, g16, g17, g18, g19, .ref a3, g20, g21, g22, g23, g24, g25, g26, g27, .int m_k.1, .int m_k.2.1, .int m_k.2.2, g28, g29, g30]))])) (wr := (bX11 a2 uq kq q_q ([(a3, .inl (cB32, 26, .inl m_v))]))) hP hD hK hS hA [0] [1, 2, 3, 4, 5, 6, 7, 8, 9, 10, 11, 12, 13, 14, 15, 16] rfl rfl (by decide) (by decide) (by decide) (fun hPc hDc => (va_runV (As := [.int k1]) (rest := []) ⟨hx, hb, hml, hown, hts⟩ (kfX12_refusesLoad l dC dI a0 k1 (.int 0) (.int m_t.2.1) (.int m_t.2.2) a2 (g9) (g10) (g11) (g12) (g13) (g14) (g15) (g16) (g17) (g18) (g19) (.ref a3) (g20) (g21) (g22) (g23) (g24) (g25) (g26) (g27) (.int m_k.1) (.int m_k.2.1) (.int m_k.2.2) (g28) (g29) (g30) H.size o7 eo7.symm) (cwV 1 hts gfX12_load_0 rfl rfl rfl (by decide +kernel) ⟨(Nat.le_of_ble_eq_true rfl), (Nat.le_of_ble_eq_true rfl)⟩) (PV hPc (hK.sub (tys' := ([])) [] rfl) hDc hN 0 rfl rfl) rfl rfl hl.1 rfl (lv_room (Nat.le_of_ble_eq_true rfl)) (zat zrX12_load_0_ok 5 rfl) ⟨(Nat.le_of_ble_eq_true rfl), (Nat.le_of_ble_eq_true rfl)⟩)) (fun r7 _ H locs hw hP hD _ hS => ?_)
  obtain rfl := hw.symm
  obtain ⟨hP, hD⟩ := pd_mk (bX11 a2 uq kq q_q ([(a3, .inl (cB32, 26, .inl m_v)), (a0, .inr (9, [.int 0, .int m_t.2.1, .int m_t.2.2, .ref a2, g9, g10, g11, g12, g13, g14, g15, g16, g17, g18, g19, .ref a3, g20, g21, g22, g23, g24, g25, g26, g27, .int m_k.1, .int m_k.2.1, .int m_k.2.2, g28, g29, g30]))])) hP hD
  refine lv_istore_n (lv' := [(2, .int o7), (0, .ref a0), (1, .int k1)]) hx hb (zat zrX12_load_0_ok 6 rfl) rfl hl (by decide) rfl (fun ls hl => ?_)
  refine lv_iload_n hx hb (zat zrX12_load_0_ok 7 rfl) rfl (lv_at hl 0 rfl) ?_
  refine lv_if_le (tgt := 21) hx hb (zat zrX12_load_0_ok 8 rfl) (by decide) (fun c12 => ?_) (fun c12 => ?_)
  · have h := (if_pos c12).symm.trans h
    refine lv_aload_n hx hb (zat zrX12_load_0_ok 13 rfl) rfl (lv_at hl 1 rfl) ?_
    refine lv_iload_n hx hb (zat zrX12_load_0_ok 14 rfl) rfl (lv_at hl 2 rfl) ?_
    obtain ⟨o23, eo23, h⟩ := bd_of h
    refine ck_v (wc := ((a0, .inr (9, [.int 0, .int m_t.2.1, .int m_t.2.2, .ref a2, g9, g10, g11, g12, g13, g14, g15, g16, g17, g18, g19, .ref a3, g20, g21, g22, g23, g24, g25, g26, g27, .int m_k.1, .int m_k.2.1, .int m_k.2.2, g28, g29, g30])) :: bX11 a2 uq kq q_q ([(a3, .inl (cB32, 26, .inl m_v))]))) (wr := []) hP hD hK hS hA [16, 0, 1, 2, 3, 4, 5, 6, 7, 8, 9, 10, 11, 12, 13, 14, 15] [] rfl rfl (by decide) (by decide) (by decide) (fun hPc hDc => (va_runV (As := [.int k1]) (rest := []) ⟨hx, hb, hml, hown, hts⟩ (kfX12_loads l dC dI a0 k1 a2 a3 uq kq m_v m_k (.int 0) (.int m_t.2.1) (.int m_t.2.2) (g9) (g10) (g11) (g12) (g13) (g14) (g15) (g16) (g17) (g18) (g19) (g20) (g21) (g22) (g23) (g24) (g25) (g26) (g27) (g28) (g29) (g30) q_q cB32 H.size o23 eo23) (cwV 1 hts gfX12_load_1 rfl rfl rfl (by decide +kernel) ⟨(Nat.le_of_ble_eq_true rfl), (Nat.le_of_ble_eq_true rfl)⟩) (PV hPc (hK.sub (tys' := (tX11 kq ((cB32, .int) :: []))) [0, 1, 2, 3, 4, 5, 6, 7, 8, 9, 10, 11, 12, 13, 14] rfl) hDc hN 0 rfl rfl) rfl rfl hl.1 rfl (lv_room (Nat.le_of_ble_eq_true rfl)) (zat zrX12_load_0_ok 15 rfl) ⟨(Nat.le_of_ble_eq_true rfl), (Nat.le_of_ble_eq_true rfl)⟩)) (fun _ H locs hw hP hD _ hS => ?_)
    obtain ⟨hP, hD⟩ := pd_mk ((a0, .inr (9, [.int 0, .int m_t.2.1, .int m_t.2.2, .ref a2, g9, g10, g11, g12, g13, g14, g15, g16, g17, g18, g19, .ref a3, g20, g21, g22, g23, g24, g25, g26, g27, .int o23.1, .int o23.2.1, .int o23.2.2, g28, g29, g30])) :: bX11 a2 uq kq q_q ([(a3, .inl (cB32, 26, .inl m_v))])) hP hD
    refine lv_aload_n hx hb (zat zrX12_load_0_ok 16 rfl) rfl (lv_at hl 1 rfl) ?_
    refine lv_aload_n hx hb (zat zrX12_load_0_ok 17 rfl) rfl (lv_at hl 1 rfl) ?_
    refine va_get (D := (dC, dI)) (ci := 9) (v := .int o23.2.1) (C := RX12) (T := TX12) (N := 30) hx hb hts ifX12_load_X12 hown hK hP 0 rfl rfl 25 (by decide) (hts (.fieldLink RX12 436 "HookPierModel" "loaded" "I") (List.mem_of_getElem? (i := 9) rfl)) (fun _ h9 => h9) rfl (zat zrX12_load_0_ok 18 rfl) ?_
    obtain ⟨o31, eo31⟩ : ∃ o, o = f_X12_good o23.2.1 ((0 : Int32), m_t.2) := ⟨_, rfl⟩
    have h := nm_of h o31 eo31
    refine ck_i (wc := ([(a0, .inr (9, [.int 0, .int m_t.2.1, .int m_t.2.2, .ref a2, g9, g10, g11, g12, g13, g14, g15, g16, g17, g18, g19, .ref a3, g20, g21, g22, g23, g24, g25, g26, g27, .int o23.1, .int o23.2.1, .int o23.2.2, g28, g29, g30]))])) (wr := (bX11 a2 uq kq q_q ([(a3, .inl (cB32, 26, .inl m_v))]))) hP hD hK hS hA [0] [1, 2, 3, 4, 5, 6, 7, 8, 9, 10, 11, 12, 13, 14, 15, 16] rfl rfl (by decide) (by decide) (by decide) (fun hPc hDc => (va_runV (As := [.int o23.2.1]) (rest := []) ⟨hx, hb, hml, hown, hts⟩ (kfX12_good l dC dI a0 o23.2.1 ((0 : Int32), m_t.2) (.ref a2) (g9) (g10) (g11) (g12) (g13) (g14) (g15) (g16) (g17) (g18) (g19) (.ref a3) (g20) (g21) (g22) (g23) (g24) (g25) (g26) (g27) (.int o23.1) (.int o23.2.1) (.int o23.2.2) (g28) (g29) (g30) H.size o31 eo31.symm) (cwV 1 hts gfX12_load_2 rfl rfl rfl (by decide +kernel) ⟨(Nat.le_of_ble_eq_true rfl), (Nat.le_of_ble_eq_true rfl)⟩) (PV hPc (hK.sub (tys' := ([])) [] rfl) hDc hN 0 rfl rfl) rfl rfl hl.1 rfl (lv_room (Nat.le_of_ble_eq_true rfl)) (zat zrX12_load_0_ok 19 rfl) ⟨(Nat.le_of_ble_eq_true rfl), (Nat.le_of_ble_eq_true rfl)⟩)) (fun r31 _ H locs hw hP hD _ hS => ?_)
    obtain rfl := hw
    obtain ⟨hP, hD⟩ := pd_mk (bX11 a2 uq kq q_q ([(a3, .inl (cB32, 26, .inl m_v)), (a0, .inr (9, [.int o31.2.1, .int o31.2.2.1, .int o31.2.2.2, .ref a2, g9, g10, g11, g12, g13, g14, g15, g16, g17, g18, g19, .ref a3, g20, g21, g22, g23, g24, g25, g26, g27, .int o23.1, .int o23.2.1, .int o23.2.2, g28, g29, g30]))])) hP hD
    obtain rfl := Option.some.inj h
    obtain ⟨hP9, hD9⟩ := pd_sub ((a0, .inr (9, [.int o31.2.1, .int o31.2.2.1, .int o31.2.2.2, .ref a2, g9, g10, g11, g12, g13, g14, g15, g16, g17, g18, g19, .ref a3, g20, g21, g22, g23, g24, g25, g26, g27, .int o23.1, .int o23.2.1, .int o23.2.2, g28, g29, g30])) :: bX11 a2 uq kq q_q ([(a3, .inl (cB32, 26, .inl m_v))])) [16, 0, 1, 2, 3, 4, 5, 6, 7, 8, 9, 10, 11, 12, 13, 14, 15] hP hD (by decide) rfl
    have hK9 := hK.sub (tys' := []) [] rfl
    rw [hQQ]
    exact W.iret (v := o31.1) hx hb hr (fun t ht hW => ⟨⟨o31.1, (), rfl, rfl, by rw [ht]; exact hP9, va_K.moved hW.alike hK9, hD9⟩, hS.F ht⟩) hS.2.2 (zat zrX12_load_0_ok 20 rfl)
  · have h := (if_neg c12).symm.trans h
    refine lv_aload_n hx hb (zat zrX12_load_0_ok 9 rfl) rfl (lv_at hl 1 rfl) ?_
    refine lv_iload_n hx hb (zat zrX12_load_0_ok 10 rfl) rfl (lv_at hl 0 rfl) ?_
    obtain ⟨o17, eo17⟩ : ∃ o, o = f_X12_refused o7 ((0 : Int32), m_t.2) := ⟨_, rfl⟩
    have h := nm_of h o17 eo17
    refine ck_i (wc := ([(a0, .inr (9, [.int 0, .int m_t.2.1, .int m_t.2.2, .ref a2, g9, g10, g11, g12, g13, g14, g15, g16, g17, g18, g19, .ref a3, g20, g21, g22, g23, g24, g25, g26, g27, .int m_k.1, .int m_k.2.1, .int m_k.2.2, g28, g29, g30]))])) (wr := (bX11 a2 uq kq q_q ([(a3, .inl (cB32, 26, .inl m_v))]))) hP hD hK hS hA [16] [0, 1, 2, 3, 4, 5, 6, 7, 8, 9, 10, 11, 12, 13, 14, 15] rfl rfl (by decide) (by decide) (by decide) (fun hPc hDc => (va_runV (As := [.int o7]) (rest := []) ⟨hx, hb, hml, hown, hts⟩ (kfX12_refused l dC dI a0 o7 ((0 : Int32), m_t.2) (.ref a2) (g9) (g10) (g11) (g12) (g13) (g14) (g15) (g16) (g17) (g18) (g19) (.ref a3) (g20) (g21) (g22) (g23) (g24) (g25) (g26) (g27) (.int m_k.1) (.int m_k.2.1) (.int m_k.2.2) (g28) (g29) (g30) H.size o17 eo17.symm) (cwV 1 hts gfX12_load_3 rfl rfl rfl (by decide +kernel) ⟨(Nat.le_of_ble_eq_true rfl), (Nat.le_of_ble_eq_true rfl)⟩) (PV hPc (hK.sub (tys' := ([])) [] rfl) hDc hN 0 rfl rfl) rfl rfl hl.1 rfl (lv_room (Nat.le_of_ble_eq_true rfl)) (zat zrX12_load_0_ok 11 rfl) ⟨(Nat.le_of_ble_eq_true rfl), (Nat.le_of_ble_eq_true rfl)⟩)) (fun r17 _ H locs hw hP hD _ hS => ?_)
    obtain rfl := hw
    obtain ⟨hP, hD⟩ := pd_mk (bX11 a2 uq kq q_q ([(a3, .inl (cB32, 26, .inl m_v)), (a0, .inr (9, [.int o17.1, .int o17.2.1, .int o17.2.2, .ref a2, g9, g10, g11, g12, g13, g14, g15, g16, g17, g18, g19, .ref a3, g20, g21, g22, g23, g24, g25, g26, g27, .int m_k.1, .int m_k.2.1, .int m_k.2.2, g28, g29, g30]))])) hP hD
    obtain rfl := Option.some.inj h
    obtain ⟨hP9, hD9⟩ := pd_sub ((a0, .inr (9, [.int o17.1, .int o17.2.1, .int o17.2.2, .ref a2, g9, g10, g11, g12, g13, g14, g15, g16, g17, g18, g19, .ref a3, g20, g21, g22, g23, g24, g25, g26, g27, .int m_k.1, .int m_k.2.1, .int m_k.2.2, g28, g29, g30])) :: bX11 a2 uq kq q_q ([(a3, .inl (cB32, 26, .inl m_v))])) [16, 0, 1, 2, 3, 4, 5, 6, 7, 8, 9, 10, 11, 12, 13, 14, 15] hP hD (by decide) rfl
    have hK9 := hK.sub (tys' := []) [] rfl
    rw [hQQ]
    exact W.iret (v := (-1 : Int32)) hx hb hr (fun t ht hW => ⟨⟨(-1 : Int32), (), rfl, rfl, by rw [ht]; exact hP9, va_K.moved hW.alike hK9, hD9⟩, hS.F ht⟩) hS.2.2 (zat zrX12_load_0_ok 12 rfl)
noncomputable def zrX12_loadWorth_0 : List ZR := zc 0 true (.aload_n 0) 1 (zc 1 true (.iconst 0) 1 (zc 2 true (.putfield 36) 3 (zc 5 true (.aload_n 0) 1 (zc 6 true (.iload_n 1) 1 (zc 7 true (.invokevirtual 445) 3 (zc 10 true (.istore_n 2) 1 (zc 11 true (.iload_n 2) 1 (zc 12 true (.ifCond .le 9) 3 (zc 15 true (.aload_n 0) 1 (zc 16 true (.iload_n 2) 1 (zc 17 true (.invokevirtual 42) 3 (zc 20 true (.ireturn) 1 (zc 21 true (.aload_n 0) 1 (zc 22 true (.iload_n 1) 1 (zc 23 true (.invokevirtual 448) 3 (zc 26 true (.aload_n 0) 1 (zc 27 true (.aload_n 0) 1 (zc 28 true (.getfield 439) 3 (zc 31 true (.invokevirtual 46) 3 (zc 34 true (.ireturn) 1 ([])))))))))))))))))))))
theorem zrX12_loadWorth_0_ok : zck 0 ((zby cX12_loadWorth).drop 0) zrX12_loadWorth_0 = true := by decide +kernel
def vfX12_loadWorth : List Cond := List.cons (.code yX12_loadWorth cX12_loadWorth 3 (some .int)) (apW [.fieldLink RX12 36 "HookPierModel" "thrown" "I", .methodLink RX12 445 yX12_refusesLoad, .instanceMethod yX12_refusesLoad, .selects RX12 yX12_refusesLoad yX12_refusesLoad, .initialized RX12, .methodLink RX12 448 yX12_loads, .instanceMethod yX12_loads, .selects RX12 yX12_loads yX12_loads, .fieldLink RX12 439 "HookPierModel" "loadedWorth" "I", .methodLink RX12 46 yX12_good, .instanceMethod yX12_good, .selects RX12 yX12_good yX12_good, .methodLink RX12 42 yX12_refused, .instanceMethod yX12_refused, .selects RX12 yX12_refused yX12_refused] (apW wsX120 (apW vfX12_refusesLoad (apW vfX12_loads (apW vfX12_good (vfX12_refused))))))
theorem ifX12_loadWorth_X12 : ∀ w ∈ wsX120, w ∈ vfX12_loadWorth := fun _ h => (List.mem_cons_of_mem _ (List.mem_append_right _ (List.mem_append_left _ h)))
theorem qfX12_loadWorth : Good vfX12_loadWorth := gd_cons (by decide +kernel) (gd_app (gd_dec (by decide +kernel) : Good [.fieldLink RX12 36 "HookPierModel" "thrown" "I", .methodLink RX12 445 yX12_refusesLoad, .instanceMethod yX12_refusesLoad, .selects RX12 yX12_refusesLoad yX12_refusesLoad, .initialized RX12, .methodLink RX12 448 yX12_loads, .instanceMethod yX12_loads, .selects RX12 yX12_loads yX12_loads, .fieldLink RX12 439 "HookPierModel" "loadedWorth" "I", .methodLink RX12 46 yX12_good, .instanceMethod yX12_good, .selects RX12 yX12_good yX12_good, .methodLink RX12 42 yX12_refused, .instanceMethod yX12_refused, .selects RX12 yX12_refused yX12_refused]) (gd_app qsX12 (gd_app qfX12_refusesLoad (gd_app qfX12_loads (gd_app qfX12_good qfX12_refused)))))
theorem gfX12_loadWorth_0 : GoodIn vfX12_loadWorth (wsV RX12 445 RX12 yX12_refusesLoad vfX12_refusesLoad) := goodIn_app (goodIn_r [.methodLink RX12 445 yX12_refusesLoad, .instanceMethod yX12_refusesLoad, .selects RX12 yX12_refusesLoad yX12_refusesLoad, .initialized RX12] [2, 3, 4, 5] rfl (by decide +kernel)) (goodIn_m (fun _ h => (List.mem_cons_of_mem _ (List.mem_append_right _ (List.mem_append_right _ (List.mem_append_left _ h))))) qfX12_refusesLoad)
theorem gfX12_loadWorth_1 : GoodIn vfX12_loadWorth (wsV RX12 448 RX12 yX12_loads vfX12_loads) := goodIn_app (goodIn_r [.methodLink RX12 448 yX12_loads, .instanceMethod yX12_loads, .selects RX12 yX12_loads yX12_loads, .initialized RX12] [6, 7, 8, 5] rfl (by decide +kernel)) (goodIn_m (fun _ h => (List.mem_cons_of_mem _ (List.mem_append_right _ (List.mem_append_right _ (List.mem_append_right _ (List.mem_append_left _ h)))))) qfX12_loads)
theorem gfX12_loadWorth_2 : GoodIn vfX12_loadWorth (wsV RX12 46 RX12 yX12_good vfX12_good) := goodIn_app (goodIn_r [.methodLink RX12 46 yX12_good, .instanceMethod yX12_good, .selects RX12 yX12_good yX12_good, .initialized RX12] [10, 11, 12, 5] rfl (by decide +kernel)) (goodIn_m (fun _ h => (List.mem_cons_of_mem _ (List.mem_append_right _ (List.mem_append_right _ (List.mem_append_right _ (List.mem_append_right _ (List.mem_append_left _ h))))))) qfX12_good)
theorem gfX12_loadWorth_3 : GoodIn vfX12_loadWorth (wsV RX12 42 RX12 yX12_refused vfX12_refused) := goodIn_app (goodIn_r [.methodLink RX12 42 yX12_refused, .instanceMethod yX12_refused, .selects RX12 yX12_refused yX12_refused, .initialized RX12] [13, 14, 15, 5] rfl (by decide +kernel)) (goodIn_m (fun _ h => (List.mem_cons_of_mem _ (List.mem_append_right _ (List.mem_append_right _ (List.mem_append_right _ (List.mem_append_right _ (List.mem_append_right _ h))))))) qfX12_refused)
set_option maxHeartbeats 2000000 in
set_option maxRecDepth 100000 in
theorem kfX12_loadWorth (l : Launch) (dC : Nat → ClassId) (dI : Nat → Nat → Nat) (a0 : Nat) (k1 : Int32) (a2 : Nat) (a3 : Nat) (uq : Nat → Nat) (kq : Nat → ClassId) (m_t : TX12_t) (m_v : TX12_v) (m_k : TX12_k) (g9 : Value) (g10 : Value) (g11 : Value) (g12 : Value) (g13 : Value) (g14 : Value) (g15 : Value) (g16 : Value) (g17 : Value) (g18 : Value) (g19 : Value) (g20 : Value) (g21 : Value) (g22 : Value) (g23 : Value) (g24 : Value) (g25 : Value) (g26 : Value) (g27 : Value) (g28 : Value) (g29 : Value) (g30 : Value) (q_q : TX11_q) (cB32 : ClassId) (sz : Nat) (out : (Int32 × TX12_t × TX12_k)) (h : f_X12_loadWorth k1 m_t m_v m_k q_q = some out) : KCi l yX12_loadWorth vfX12_loadWorth ({ frames := 3, cells := 0, slots := 0, locals := 70 }) (dC, dI) [.ref a0, .int k1] sz ((a0, .inr (9, [.int m_t.1, .int m_t.2.1, .int m_t.2.2, .ref a2, g9, g10, g11, g12, g13, g14, g15, g16, g17, g18, g19, .ref a3, g20, g21, g22, g23, g24, g25, g26, g27, .int m_k.1, .int m_k.2.1, .int m_k.2.2, g28, g29, g30])) :: bX11 a2 uq kq q_q ([(a3, .inl (cB32, 26, .inl m_v))])) (tX11 kq ((cB32, .int) :: [])) (fun (r : Int32) _ => r = out.1) ((a0, .inr (9, [.int out.2.1.1, .int out.2.1.2.1, .int out.2.1.2.2, .ref a2, g9, g10, g11, g12, g13, g14, g15, g16, g17, g18, g19, .ref a3, g20, g21, g22, g23, g24, g25, g26, g27, .int out.2.2.1, .int out.2.2.2.1, .int out.2.2.2.2, g28, g29, g30])) :: bX11 a2 uq kq q_q ([(a3, .inl (cB32, 26, .inl m_v))])) 0 0 := by
  refine Met.ofW (cc := cX12_loadWorth) (maxL := 3) (ret := (some .int)) (by decide) rfl ?_
  intro p e s m args below meth c s₁ B0 hml hv
  obtain ⟨rfl, hsz, hP, hK, hD0, hN⟩ := hv
  have hx := B0.exec
  have hb := B0.bytes
  have hr := B0.returns
  have hts := atoms_spec (ws := vfX12_loadWorth) B0.pre
  have hown : s.vm.findClass RX12 = some m.cls := findClass_of_methodNamed B0.named
  have hlocks := B0.notSynchronized
  subst hsz
  have hD := hD0.self (sz := s.heap.size)
  generalize hAe : va_A ((a0, .inr (9, [.int m_t.1, .int m_t.2.1, .int m_t.2.2, .ref a2, g9, g10, g11, g12, g13, g14, g15, g16, g17, g18, g19, .ref a3, g20, g21, g22, g23, g24, g25, g26, g27, .int m_k.1, .int m_k.2.1, .int m_k.2.2, g28, g29, g30])) :: bX11 a2 uq kq q_q ([(a3, .inl (cB32, 26, .inl m_v))])) s.heap.size = A at hD ⊢
  have hA : ∀ q : Nat, s.heap.size ≤ q → A q := fun q h => by rw [← hAe]; exact Or.inr h
  have hS : va_S A s.heap s.heap [] := va_S.rf
  have hP : va_P (dC, dI) vwCl ((a0, .inr (9, [.int m_t.1, .int m_t.2.1, .int m_t.2.2, .ref a2, g9, g10, g11, g12, g13, g14, g15, g16, g17, g18, g19, .ref a3, g20, g21, g22, g23, g24, g25, g26, g27, .int m_k.1, .int m_k.2.1, .int m_k.2.2, g28, g29, g30])) :: bX11 a2 uq kq q_q ([(a3, .inl (cB32, 26, .inl m_v))])) s.heap := hP
  have hl := lv_entry ([.ref a0, .int k1]) (n := 3) (Nat.le_of_ble_eq_true rfl)
  rw [lg_entry_eq]
  generalize (lg_sl ([.ref a0, .int k1]) ++ List.replicate (3 - (lg_sl ([.ref a0, .int k1])).length) Slot.unset).toArray = ls at hl ⊢
  have hl : lv_has ls 3 [(0, .ref a0), (1, .int k1)] := hl
  refine W_q (fun QQ hQQ => ?_)
  rw [f_X12_loadWorth] at h
  refine lv_aload_n hx hb (zat zrX12_loadWorth_0_ok 0 rfl) rfl (lv_at hl 0 rfl) ?_
  refine lv_iconst (v := 0) hx hb (zat zrX12_loadWorth_0_ok 1 rfl) (by decide) ?_
  refine va_put (D := (dC, dI)) (ci := 9) (v := .int 0) (ty := .int) (C := RX12) (T := TX12) (N := 30) hx hb hts ifX12_loadWorth_X12 tyX12 tyX12_ok nmX12 hown hK hP hD hS 0 rfl rfl 0 (by decide) (hts (.fieldLink RX12 36 "HookPierModel" "thrown" "I") (List.mem_of_getElem? (i := 1) rfl)) (fun _ h9 => h9) rfl (by decide +kernel) rfl rfl (Nat.le_of_ble_eq_true rfl) (zat zrX12_loadWorth_0_ok 2 rfl) (fun H locs hP hD hS => ?_)
  obtain ⟨hP, hD⟩ := pd_mk ((a0, .inr (9, [.int 0, .int m_t.2.1, .int m_t.2.2, .ref a2, g9, g10, g11, g12, g13, g14, g15, g16, g17, g18, g19, .ref a3, g20, g21, g22, g23, g24, g25, g26, g27, .int m_k.1, .int m_k.2.1, .int m_k.2.2, g28, g29, g30])) :: bX11 a2 uq kq q_q ([(a3, .inl (cB32, 26, .inl m_v))])) hP hD
  refine lv_aload_n hx hb (zat zrX12_loadWorth_0_ok 3 rfl) rfl (lv_at hl 0 rfl) ?_
  refine lv_iload_n hx hb (zat zrX12_loadWorth_0_ok 4 rfl) rfl (lv_at hl 1 rfl) ?_
  obtain ⟨o7, eo7⟩ : ∃ o, o = f_X12_refusesLoad k1 := ⟨_, rfl⟩
  have h := nm_of h o7 eo7
  refine ck_i (wc := ([(a0, .inr (9, [.int 0, .int m_t.2.1, .int m_t.2.2, .ref a2, g9, g10, g11, g12, g13, g14, g15, g16, g17, g18, g19, .ref a3, g20, g21, g22, g23, g24, g25, g26, g27, .int m_k.1, .int m_k.2.1, .int m_k.2.2, g28, g29, g30]))])) (wr := (bX11 a2 uq kq q_q ([(a3, .inl (cB32, 26, .inl m_v))]))) hP hD hK hS hA [0] [1, 2, 3, 4, 5, 6, 7, 8, 9, 10, 11, 12, 13, 14, 15, 16] rfl rfl (by decide) (by decide) (by decide) (fun hPc hDc => (va_runV (As := [.int k1]) (rest := []) ⟨hx, hb, hml, hown, hts⟩ (kfX12_refusesLoad l dC dI a0 k1 (.int 0) (.int m_t.2.1) (.int m_t.2.2) a2 (g9) (g10) (g11) (g12) (g13) (g14) (g15) (g16) (g17) (g18) (g19) (.ref a3) (g20) (g21) (g22) (g23) (g24) (g25) (g26) (g27) (.int m_k.1) (.int m_k.2.1) (.int m_k.2.2) (g28) (g29) (g30) H.size o7 eo7.symm) (cwV 1 hts gfX12_loadWorth_0 rfl rfl rfl (by decide +kernel) ⟨(Nat.le_of_ble_eq_true rfl), (Nat.le_of_ble_eq_true rfl)⟩) (PV hPc (hK.sub (tys' := ([])) [] rfl) hDc hN 0 rfl rfl) rfl rfl hl.1 rfl (lv_room (Nat.le_of_ble_eq_true rfl)) (zat zrX12_loadWorth_0_ok 5 rfl) ⟨(Nat.le_of_ble_eq_true rfl), (Nat.le_of_ble_eq_true rfl)⟩)) (fun r7 _ H locs hw hP hD _ hS => ?_)
  obtain rfl := hw.symm
  obtain ⟨hP, hD⟩ := pd_mk (bX11 a2 uq kq q_q ([(a3, .inl (cB32, 26, .inl m_v)), (a0, .inr (9, [.int 0, .int m_t.2.1, .int m_t.2.2, .ref a2, g9, g10, g11, g12, g13, g14, g15, g16, g17, g18, g19, .ref a3, g20, g21, g22, g23, g24, g25, g26, g27, .int m_k.1, .int m_k.2.1, .int m_k.2.2, g28, g29, g30]))])) hP hD
  refine lv_istore_n (lv' := [(2, .int o7), (0, .ref a0), (1, .int k1)]) hx hb (zat zrX12_loadWorth_0_ok 6 rfl) rfl hl (by decide) rfl (fun ls hl => ?_)
  refine lv_iload_n hx hb (zat zrX12_loadWorth_0_ok 7 rfl) rfl (lv_at hl 0 rfl) ?_
  refine lv_if_le (tgt := 21) hx hb (zat zrX12_loadWorth_0_ok 8 rfl) (by decide) (fun c12 => ?_) (fun c12 => ?_)
  · have h := (if_pos c12).symm.trans h
    refine lv_aload_n hx hb (zat zrX12_loadWorth_0_ok 13 rfl) rfl (lv_at hl 1 rfl) ?_
    refine lv_iload_n hx hb (zat zrX12_loadWorth_0_ok 14 rfl) rfl (lv_at hl 2 rfl) ?_
    obtain ⟨o23, eo23, h⟩ := bd_of h
    refine ck_v (wc := ((a0, .inr (9, [.int 0, .int m_t.2.1, .int m_t.2.2, .ref a2, g9, g10, g11, g12, g13, g14, g15, g16, g17, g18, g19, .ref a3, g20, g21, g22, g23, g24, g25, g26, g27, .int m_k.1, .int m_k.2.1, .int m_k.2.2, g28, g29, g30])) :: bX11 a2 uq kq q_q ([(a3, .inl (cB32, 26, .inl m_v))]))) (wr := []) hP hD hK hS hA [16, 0, 1, 2, 3, 4, 5, 6, 7, 8, 9, 10, 11, 12, 13, 14, 15] [] rfl rfl (by decide) (by decide) (by decide) (fun hPc hDc => (va_runV (As := [.int k1]) (rest := []) ⟨hx, hb, hml, hown, hts⟩ (kfX12_loads l dC dI a0 k1 a2 a3 uq kq m_v m_k (.int 0) (.int m_t.2.1) (.int m_t.2.2) (g9) (g10) (g11) (g12) (g13) (g14) (g15) (g16) (g17) (g18) (g19) (g20) (g21) (g22) (g23) (g24) (g25) (g26) (g27) (g28) (g29) (g30) q_q cB32 H.size o23 eo23) (cwV 1 hts gfX12_loadWorth_1 rfl rfl rfl (by decide +kernel) ⟨(Nat.le_of_ble_eq_true rfl), (Nat.le_of_ble_eq_true rfl)⟩) (PV hPc (hK.sub (tys' := (tX11 kq ((cB32, .int) :: []))) [0, 1, 2, 3, 4, 5, 6, 7, 8, 9, 10, 11, 12, 13, 14] rfl) hDc hN 0 rfl rfl) rfl rfl hl.1 rfl (lv_room (Nat.le_of_ble_eq_true rfl)) (zat zrX12_loadWorth_0_ok 15 rfl) ⟨(Nat.le_of_ble_eq_true rfl), (Nat.le_of_ble_eq_true rfl)⟩)) (fun _ H locs hw hP hD _ hS => ?_)
    obtain ⟨hP, hD⟩ := pd_mk ((a0, .inr (9, [.int 0, .int m_t.2.1, .int m_t.2.2, .ref a2, g9, g10, g11, g12, g13, g14, g15, g16, g17, g18, g19, .ref a3, g20, g21, g22, g23, g24, g25, g26, g27, .int o23.1, .int o23.2.1, .int o23.2.2, g28, g29, g30])) :: bX11 a2 uq kq q_q ([(a3, .inl (cB32, 26, .inl m_v))])) hP hD
    refine lv_aload_n hx hb (zat zrX12_loadWorth_0_ok 16 rfl) rfl (lv_at hl 1 rfl) ?_
    refine lv_aload_n hx hb (zat zrX12_loadWorth_0_ok 17 rfl) rfl (lv_at hl 1 rfl) ?_
    refine va_get (D := (dC, dI)) (ci := 9) (v := .int o23.2.2) (C := RX12) (T := TX12) (N := 30) hx hb hts ifX12_loadWorth_X12 hown hK hP 0 rfl rfl 26 (by decide) (hts (.fieldLink RX12 439 "HookPierModel" "loadedWorth" "I") (List.mem_of_getElem? (i := 9) rfl)) (fun _ h9 => h9) rfl (zat zrX12_loadWorth_0_ok 18 rfl) ?_
    obtain ⟨o31, eo31⟩ : ∃ o, o = f_X12_good o23.2.2 ((0 : Int32), m_t.2) := ⟨_, rfl⟩
    have h := nm_of h o31 eo31
    refine ck_i (wc := ([(a0, .inr (9, [.int 0, .int m_t.2.1, .int m_t.2.2, .ref a2, g9, g10, g11, g12, g13, g14, g15, g16, g17, g18, g19, .ref a3, g20, g21, g22, g23, g24, g25, g26, g27, .int o23.1, .int o23.2.1, .int o23.2.2, g28, g29, g30]))])) (wr := (bX11 a2 uq kq q_q ([(a3, .inl (cB32, 26, .inl m_v))]))) hP hD hK hS hA [0] [1, 2, 3, 4, 5, 6, 7, 8, 9, 10, 11, 12, 13, 14, 15, 16] rfl rfl (by decide) (by decide) (by decide) (fun hPc hDc => (va_runV (As := [.int o23.2.2]) (rest := []) ⟨hx, hb, hml, hown, hts⟩ (kfX12_good l dC dI a0 o23.2.2 ((0 : Int32), m_t.2) (.ref a2) (g9) (g10) (g11) (g12) (g13) (g14) (g15) (g16) (g17) (g18) (g19) (.ref a3) (g20) (g21) (g22) (g23) (g24) (g25) (g26) (g27) (.int o23.1) (.int o23.2.1) (.int o23.2.2) (g28) (g29) (g30) H.size o31 eo31.symm) (cwV 1 hts gfX12_loadWorth_2 rfl rfl rfl (by decide +kernel) ⟨(Nat.le_of_ble_eq_true rfl), (Nat.le_of_ble_eq_true rfl)⟩) (PV hPc (hK.sub (tys' := ([])) [] rfl) hDc hN 0 rfl rfl) rfl rfl hl.1 rfl (lv_room (Nat.le_of_ble_eq_true rfl)) (zat zrX12_loadWorth_0_ok 19 rfl) ⟨(Nat.le_of_ble_eq_true rfl), (Nat.le_of_ble_eq_true rfl)⟩)) (fun r31 _ H locs hw hP hD _ hS => ?_)
    obtain rfl := hw
    obtain ⟨hP, hD⟩ := pd_mk (bX11 a2 uq kq q_q ([(a3, .inl (cB32, 26, .inl m_v)), (a0, .inr (9, [.int o31.2.1, .int o31.2.2.1, .int o31.2.2.2, .ref a2, g9, g10, g11, g12, g13, g14, g15, g16, g17, g18, g19, .ref a3, g20, g21, g22, g23, g24, g25, g26, g27, .int o23.1, .int o23.2.1, .int o23.2.2, g28, g29, g30]))])) hP hD
    obtain rfl := Option.some.inj h
    obtain ⟨hP9, hD9⟩ := pd_sub ((a0, .inr (9, [.int o31.2.1, .int o31.2.2.1, .int o31.2.2.2, .ref a2, g9, g10, g11, g12, g13, g14, g15, g16, g17, g18, g19, .ref a3, g20, g21, g22, g23, g24, g25, g26, g27, .int o23.1, .int o23.2.1, .int o23.2.2, g28, g29, g30])) :: bX11 a2 uq kq q_q ([(a3, .inl (cB32, 26, .inl m_v))])) [16, 0, 1, 2, 3, 4, 5, 6, 7, 8, 9, 10, 11, 12, 13, 14, 15] hP hD (by decide) rfl
    have hK9 := hK.sub (tys' := []) [] rfl
    rw [hQQ]
    exact W.iret (v := o31.1) hx hb hr (fun t ht hW => ⟨⟨o31.1, (), rfl, rfl, by rw [ht]; exact hP9, va_K.moved hW.alike hK9, hD9⟩, hS.F ht⟩) hS.2.2 (zat zrX12_loadWorth_0_ok 20 rfl)
  · have h := (if_neg c12).symm.trans h
    refine lv_aload_n hx hb (zat zrX12_loadWorth_0_ok 9 rfl) rfl (lv_at hl 1 rfl) ?_
    refine lv_iload_n hx hb (zat zrX12_loadWorth_0_ok 10 rfl) rfl (lv_at hl 0 rfl) ?_
    obtain ⟨o17, eo17⟩ : ∃ o, o = f_X12_refused o7 ((0 : Int32), m_t.2) := ⟨_, rfl⟩
    have h := nm_of h o17 eo17
    refine ck_i (wc := ([(a0, .inr (9, [.int 0, .int m_t.2.1, .int m_t.2.2, .ref a2, g9, g10, g11, g12, g13, g14, g15, g16, g17, g18, g19, .ref a3, g20, g21, g22, g23, g24, g25, g26, g27, .int m_k.1, .int m_k.2.1, .int m_k.2.2, g28, g29, g30]))])) (wr := (bX11 a2 uq kq q_q ([(a3, .inl (cB32, 26, .inl m_v))]))) hP hD hK hS hA [16] [0, 1, 2, 3, 4, 5, 6, 7, 8, 9, 10, 11, 12, 13, 14, 15] rfl rfl (by decide) (by decide) (by decide) (fun hPc hDc => (va_runV (As := [.int o7]) (rest := []) ⟨hx, hb, hml, hown, hts⟩ (kfX12_refused l dC dI a0 o7 ((0 : Int32), m_t.2) (.ref a2) (g9) (g10) (g11) (g12) (g13) (g14) (g15) (g16) (g17) (g18) (g19) (.ref a3) (g20) (g21) (g22) (g23) (g24) (g25) (g26) (g27) (.int m_k.1) (.int m_k.2.1) (.int m_k.2.2) (g28) (g29) (g30) H.size o17 eo17.symm) (cwV 1 hts gfX12_loadWorth_3 rfl rfl rfl (by decide +kernel) ⟨(Nat.le_of_ble_eq_true rfl), (Nat.le_of_ble_eq_true rfl)⟩) (PV hPc (hK.sub (tys' := ([])) [] rfl) hDc hN 0 rfl rfl) rfl rfl hl.1 rfl (lv_room (Nat.le_of_ble_eq_true rfl)) (zat zrX12_loadWorth_0_ok 11 rfl) ⟨(Nat.le_of_ble_eq_true rfl), (Nat.le_of_ble_eq_true rfl)⟩)) (fun r17 _ H locs hw hP hD _ hS => ?_)
    obtain rfl := hw
    obtain ⟨hP, hD⟩ := pd_mk (bX11 a2 uq kq q_q ([(a3, .inl (cB32, 26, .inl m_v)), (a0, .inr (9, [.int o17.1, .int o17.2.1, .int o17.2.2, .ref a2, g9, g10, g11, g12, g13, g14, g15, g16, g17, g18, g19, .ref a3, g20, g21, g22, g23, g24, g25, g26, g27, .int m_k.1, .int m_k.2.1, .int m_k.2.2, g28, g29, g30]))])) hP hD
    obtain rfl := Option.some.inj h
    obtain ⟨hP9, hD9⟩ := pd_sub ((a0, .inr (9, [.int o17.1, .int o17.2.1, .int o17.2.2, .ref a2, g9, g10, g11, g12, g13, g14, g15, g16, g17, g18, g19, .ref a3, g20, g21, g22, g23, g24, g25, g26, g27, .int m_k.1, .int m_k.2.1, .int m_k.2.2, g28, g29, g30])) :: bX11 a2 uq kq q_q ([(a3, .inl (cB32, 26, .inl m_v))])) [16, 0, 1, 2, 3, 4, 5, 6, 7, 8, 9, 10, 11, 12, 13, 14, 15] hP hD (by decide) rfl
    have hK9 := hK.sub (tys' := []) [] rfl
    rw [hQQ]
    exact W.iret (v := (-1 : Int32)) hx hb hr (fun t ht hW => ⟨⟨(-1 : Int32), (), rfl, rfl, by rw [ht]; exact hP9, va_K.moved hW.alike hK9, hD9⟩, hS.F ht⟩) hS.2.2 (zat zrX12_loadWorth_0_ok 12 rfl)
noncomputable def zrX12_bestDay_0 : List ZR := zc 0 true (.aload_n 0) 1 (zc 1 true (.iconst 0) 1 (zc 2 true (.putfield 36) 3 (zc 5 true (.aload_n 0) 1 (zc 6 true (.getfield 299) 3 (zc 9 true (.ifnonnull 9) 3 (zc 12 false (.nop) 6 (zc 18 true (.iconst 0) 1 (zc 19 true (.istore_n 1) 1 (zc 20 true (.iconst (-1)) 1 (zc 21 true (.istore_n 2) 1 (zc 22 true (.iconst 0) 1 (zc 23 true (.istore_n 3) 1 (zc 24 true (.iload_n 3) 1 (zc 25 true (.bipush 20) 2 (zc 27 true (.if_icmp .gt 94) 3 (zc 30 true (.iconst 0) 1 (zc 31 true (.istore 4) 2 (zc 33 true (.iconst 0) 1 (zc 34 true (.istore 5) 2 (zc 36 true (.iload 5) 2 (zc 38 true (.aload_n 0) 1 (zc 39 true (.getfield 299) 3 (zc 42 true (.getfield 231) 3 (zc 45 true (.if_icmp .ge 56) 3 (zc 48 true (.iload 4) 2 (zc 50 true (.aload_n 0) 1 (zc 51 true (.getfield 17) 3 (zc 54 true (.iconst 0) 1 (zc 55 true (.iload 5) 2 (zc 57 true (.iadd) 1 (zc 58 true (.iaload) 1 (zc 59 true (.iconst 1) 1 (zc 60 true (.if_icmp .ne 31) 3 (zc 63 true (.aload_n 0) 1 (zc 64 true (.iload 5) 2 (zc 66 true (.aload_n 0) 1 (zc 67 true (.getfield 17) 3 (zc 70 true (.bipush 6) 2 (zc 72 true (.iload 5) 2 (zc 74 true (.iadd) 1 (zc 75 true (.iaload) 1 (zc 76 true (.aload_n 0) 1 (zc 77 true (.getfield 17) 3 (zc 80 true (.bipush 23) 2 (zc 82 true (.iaload) 1 (zc 83 true (.iload_n 3) 1 (zc 84 true (.iadd) 1 (zc 85 true (.invokevirtual 323) 3 (zc 88 true (.goto 4) 3 (zc 91 true (.iconst 0) 1 (zc 92 true (.iadd) 1 (zc 93 true (.istore 4) 2 (zc 95 true (.iinc 5 1) 3 (zc 98 true (.goto (-62)) 3 (zc 101 true (.iload 4) 2 (zc 103 true (.iload_n 2) 1 (zc 104 true (.if_icmp .gt 6) 3 (zc 107 true (.goto 8) 3 (zc 110 true (.iload 4) 2 (zc 112 true (.istore_n 2) 1 (zc 113 true (.iload_n 3) 1 (zc 114 true (.istore_n 1) 1 (zc 115 true (.iinc 3 1) 3 ([]))))))))))))))))))))))))))))))))))))))))))))))))))))))))))))))))
theorem zrX12_bestDay_0_ok : zck 0 ((zby cX12_bestDay).drop 0) zrX12_bestDay_0 = true := by decide +kernel
noncomputable def zrX12_bestDay_1 : List ZR := zc 118 true (.goto (-94)) 3 (zc 121 true (.aload_n 0) 1 (zc 122 true (.iload_n 1) 1 (zc 123 true (.invokevirtual 46) 3 (zc 126 true (.ireturn) 1 ([])))))
theorem zrX12_bestDay_1_ok : zck 118 ((zby cX12_bestDay).drop 118) zrX12_bestDay_1 = true := by decide +kernel
def vfX12_bestDay : List Cond := List.cons (.code yX12_bestDay cX12_bestDay 6 (some .int)) (apW [.fieldLink RX12 36 "HookPierModel" "thrown" "I", .fieldLink RX12 299 "HookPierModel" "pier" "LHookPierModel$Pier;", .methodLink RX12 46 yX12_good, .instanceMethod yX12_good, .selects RX12 yX12_good yX12_good, .initialized RX12, .fieldLink RX12 17 "HookPierModel" "v" "[I", .methodLink RX12 323 yX12_keeps, .instanceMethod yX12_keeps, .selects RX12 yX12_keeps yX12_keeps] (apW wsX120 (apW wsX110 (apW vfX12_good (vfX12_keeps)))))
theorem ifX12_bestDay_X12 : ∀ w ∈ wsX120, w ∈ vfX12_bestDay := fun _ h => (List.mem_cons_of_mem _ (List.mem_append_right _ (List.mem_append_left _ h)))
theorem ifX12_bestDay_X11 : ∀ w ∈ wsX110, w ∈ vfX12_bestDay := fun _ h => (List.mem_cons_of_mem _ (List.mem_append_right _ (List.mem_append_right _ (List.mem_append_left _ h))))
theorem qfX12_bestDay : Good vfX12_bestDay := gd_cons (by decide +kernel) (gd_app (gd_dec (by decide +kernel) : Good [.fieldLink RX12 36 "HookPierModel" "thrown" "I", .fieldLink RX12 299 "HookPierModel" "pier" "LHookPierModel$Pier;", .methodLink RX12 46 yX12_good, .instanceMethod yX12_good, .selects RX12 yX12_good yX12_good, .initialized RX12, .fieldLink RX12 17 "HookPierModel" "v" "[I", .methodLink RX12 323 yX12_keeps, .instanceMethod yX12_keeps, .selects RX12 yX12_keeps yX12_keeps]) (gd_app qsX12 (gd_app qsX11 (gd_app qfX12_good qfX12_keeps))))
theorem gfX12_bestDay_0 : GoodIn vfX12_bestDay (wsV RX12 46 RX12 yX12_good vfX12_good) := goodIn_app (goodIn_r [.methodLink RX12 46 yX12_good, .instanceMethod yX12_good, .selects RX12 yX12_good yX12_good, .initialized RX12] [3, 4, 5, 6] rfl (by decide +kernel)) (goodIn_m (fun _ h => (List.mem_cons_of_mem _ (List.mem_append_right _ (List.mem_append_right _ (List.mem_append_right _ (List.mem_append_left _ h)))))) qfX12_good)
theorem gfX12_bestDay_1 : GoodIn vfX12_bestDay (wsV RX12 323 RX12 yX12_keeps vfX12_keeps) := goodIn_app (goodIn_r [.methodLink RX12 323 yX12_keeps, .instanceMethod yX12_keeps, .selects RX12 yX12_keeps yX12_keeps, .initialized RX12] [8, 9, 10, 6] rfl (by decide +kernel)) (goodIn_m (fun _ h => (List.mem_cons_of_mem _ (List.mem_append_right _ (List.mem_append_right _ (List.mem_append_right _ (List.mem_append_right _ h)))))) qfX12_keeps)
set_option maxHeartbeats 2000000 in
set_option maxRecDepth 100000 in
theorem kfX12_bestDay (l : Launch) (dC : Nat → ClassId) (dI : Nat → Nat → Nat) (a0 : Nat) (a1 : Nat) (a2 : Nat) (uq : Nat → Nat) (kq : Nat → ClassId) (m_t : TX12_t) (m_v : TX12_v) (g7 : Value) (g8 : Value) (g9 : Value) (g10 : Value) (g11 : Value) (g12 : Value) (g13 : Value) (g14 : Value) (g15 : Value) (g16 : Value) (g17 : Value) (g18 : Value) (g19 : Value) (g20 : Value) (g21 : Value) (g22 : Value) (g23 : Value) (g24 : Value) (g25 : Value) (g26 : Value) (g27 : Value) (g28 : Value) (g29 : Value) (g30 : Value) (g31 : Value) (q_q : TX11_q) (cB33 : ClassId) (sz : Nat) (out : (Int32 × TX12_t)) (h : f_X12_bestDay m_t m_v q_q = some out) : KCi l yX12_bestDay vfX12_bestDay ({ frames := 1, cells := 0, slots := 0, locals := 24 }) (dC, dI) [.ref a0] sz ((a0, .inr (9, [.int m_t.1, .int m_t.2.1, .int m_t.2.2, .ref a1, g7, g8, g9, g10, g11, g12, g13, g14, g15, g16, g17, .ref a2, g18, g19, g20, g21, g22, g23, g24, g25, g26, g27, g28, g29, g30, g31])) :: bX11 a1 uq kq q_q ([(a2, .inl (cB33, 26, .inl m_v))])) (tX11 kq ((cB33, .int) :: [])) (fun (r : Int32) _ => r = out.1) ((a0, .inr (9, [.int out.2.1, .int out.2.2.1, .int out.2.2.2, .ref a1, g7, g8, g9, g10, g11, g12, g13, g14, g15, g16, g17, .ref a2, g18, g19, g20, g21, g22, g23, g24, g25, g26, g27, g28, g29, g30, g31])) :: bX11 a1 uq kq q_q ([(a2, .inl (cB33, 26, .inl m_v))])) 0 0 := by
  refine Met.ofW (cc := cX12_bestDay) (maxL := 6) (ret := (some .int)) (by decide) rfl ?_
  intro p e s m args below meth c s₁ B0 hml hv
  obtain ⟨rfl, hsz, hP, hK, hD0, hN⟩ := hv
  have hx := B0.exec
  have hb := B0.bytes
  have hr := B0.returns
  have hts := atoms_spec (ws := vfX12_bestDay) B0.pre
  have hown : s.vm.findClass RX12 = some m.cls := findClass_of_methodNamed B0.named
  have hlocks := B0.notSynchronized
  subst hsz
  have hD := hD0.self (sz := s.heap.size)
  generalize hAe : va_A ((a0, .inr (9, [.int m_t.1, .int m_t.2.1, .int m_t.2.2, .ref a1, g7, g8, g9, g10, g11, g12, g13, g14, g15, g16, g17, .ref a2, g18, g19, g20, g21, g22, g23, g24, g25, g26, g27, g28, g29, g30, g31])) :: bX11 a1 uq kq q_q ([(a2, .inl (cB33, 26, .inl m_v))])) s.heap.size = A at hD ⊢
  have hA : ∀ q : Nat, s.heap.size ≤ q → A q := fun q h => by rw [← hAe]; exact Or.inr h
  have hS : va_S A s.heap s.heap [] := va_S.rf
  have hP : va_P (dC, dI) vwCl ((a0, .inr (9, [.int m_t.1, .int m_t.2.1, .int m_t.2.2, .ref a1, g7, g8, g9, g10, g11, g12, g13, g14, g15, g16, g17, .ref a2, g18, g19, g20, g21, g22, g23, g24, g25, g26, g27, g28, g29, g30, g31])) :: bX11 a1 uq kq q_q ([(a2, .inl (cB33, 26, .inl m_v))])) s.heap := hP
  have hl := lv_entry ([.ref a0]) (n := 6) (Nat.le_of_ble_eq_true rfl)
  rw [lg_entry_eq]
  generalize (lg_sl ([.ref a0]) ++ List.replicate (6 - (lg_sl ([.ref a0])).length) Slot.unset).toArray = ls at hl ⊢
  have hl : lv_has ls 6 [(0, .ref a0)] := hl
  refine W_q (fun QQ hQQ => ?_)
  rw [f_X12_bestDay] at h
  refine lv_aload_n hx hb (zat zrX12_bestDay_0_ok 0 rfl) rfl (lv_at hl 0 rfl) ?_
  refine lv_iconst (v := 0) hx hb (zat zrX12_bestDay_0_ok 1 rfl) (by decide) ?_
  refine va_put (D := (dC, dI)) (ci := 9) (v := .int 0) (ty := .int) (C := RX12) (T := TX12) (N := 30) hx hb hts ifX12_bestDay_X12 tyX12 tyX12_ok nmX12 hown hK hP hD hS 0 rfl rfl 0 (by decide) (hts (.fieldLink RX12 36 "HookPierModel" "thrown" "I") (List.mem_of_getElem? (i := 1) rfl)) (fun _ h9 => h9) rfl (by decide +kernel) rfl rfl (Nat.le_of_ble_eq_true rfl) (zat zrX12_bestDay_0_ok 2 rfl) (fun H locs hP hD hS => ?_)
  obtain ⟨hP, hD⟩ := pd_mk ((a0, .inr (9, [.int 0, .int m_t.2.1, .int m_t.2.2, .ref a1, g7, g8, g9, g10, g11, g12, g13, g14, g15, g16, g17, .ref a2, g18, g19, g20, g21, g22, g23, g24, g25, g26, g27, g28, g29, g30, g31])) :: bX11 a1 uq kq q_q ([(a2, .inl (cB33, 26, .inl m_v))])) hP hD
  refine lv_aload_n hx hb (zat zrX12_bestDay_0_ok 3 rfl) rfl (lv_at hl 0 rfl) ?_
  refine va_get (D := (dC, dI)) (ci := 9) (v := .ref a1) (C := RX12) (T := TX12) (N := 30) hx hb hts ifX12_bestDay_X12 hown hK hP 0 rfl rfl 3 (by decide) (hts (.fieldLink RX12 299 "HookPierModel" "pier" "LHookPierModel$Pier;") (List.mem_of_getElem? (i := 2) rfl)) (fun _ h9 => h9) rfl (zat zrX12_bestDay_0_ok 4 rfl) ?_
  refine lv_ifnonnull (tgt := 18) hx hb (zat zrX12_bestDay_0_ok 5 rfl) (by decide) ?_
  refine lv_iconst (v := 0) hx hb (zat zrX12_bestDay_0_ok 7 rfl) (by decide) ?_
  refine lv_istore_n (lv' := [(1, .int 0), (0, .ref a0)]) hx hb (zat zrX12_bestDay_0_ok 8 rfl) rfl hl (by decide) rfl (fun ls hl => ?_)
  refine lv_iconst (v := (-1)) hx hb (zat zrX12_bestDay_0_ok 9 rfl) (by decide) ?_
  refine lv_istore_n (lv' := [(2, .int (-1)), (1, .int 0), (0, .ref a0)]) hx hb (zat zrX12_bestDay_0_ok 10 rfl) rfl hl (by decide) rfl (fun ls hl => ?_)
  refine lv_iconst (v := 0) hx hb (zat zrX12_bestDay_0_ok 11 rfl) (by decide) ?_
  refine lv_istore_n (lv' := [(3, .int 0), (2, .int (-1)), (1, .int 0), (0, .ref a0)]) hx hb (zat zrX12_bestDay_0_ok 12 rfl) rfl hl (by decide) rfl (fun ls hl => ?_)
  have L24 : ∀ (n24 : Nat) (v24_l3 : Int32) (v24_l2 : Int32) (v24_l1 : Int32) (H : Heap) (locs : List Loc) (ls : Array Slot), f_X12_bestDay_L24 m_t m_v q_q n24 v24_l3 v24_l2 v24_l1 = some out → va_P (dC, dI) vwCl ((a0, .inr (9, [.int 0, .int m_t.2.1, .int m_t.2.2, .ref a1, g7, g8, g9, g10, g11, g12, g13, g14, g15, g16, g17, .ref a2, g18, g19, g20, g21, g22, g23, g24, g25, g26, g27, g28, g29, g30, g31])) :: bX11 a1 uq kq q_q ([(a2, .inl (cB33, 26, .inl m_v))])) H → va_D A ((a0, .inr (9, [.int 0, .int m_t.2.1, .int m_t.2.2, .ref a1, g7, g8, g9, g10, g11, g12, g13, g14, g15, g16, g17, .ref a2, g18, g19, g20, g21, g22, g23, g24, g25, g26, g27, g28, g29, g30, g31])) :: bX11 a1 uq kq q_q ([(a2, .inl (cB33, 26, .inl m_v))])) → va_S A s.heap H locs → lv_has ls 6 [(3, .int v24_l3), (2, .int v24_l2), (1, .int v24_l1), (0, .ref a0)] → W p l e (headSpec vfX12_bestDay { frames := 1, cells := 0, slots := 0, locals := 24 }).room s m ([.ref a0]).toArray below meth c H locs 0 0 QQ (F0 m 24 ls []) := by
    intro n24
    induction n24 with
    | zero =>
      intro v24_l3 v24_l2 v24_l1 H locs ls h  _ _ _ _
      rw [f_X12_bestDay_L24] at h
      cases h
    | succ n24 ih24 =>
      intro v24_l3 v24_l2 v24_l1 H locs ls h  hP hD hS hl
      rw [f_X12_bestDay_L24] at h
      refine lv_iload_n hx hb (zat zrX12_bestDay_0_ok 13 rfl) rfl (lv_at hl 0 rfl) ?_
      refine lv_bipush (v := 20) hx hb (zat zrX12_bestDay_0_ok 14 rfl) (by decide) ?_
      refine lv_icmp_gt (tgt := 121) hx hb (zat zrX12_bestDay_0_ok 15 rfl) (by decide) (fun c27 => ?_) (fun c27 => ?_)
      · have h := (if_pos c27).symm.trans h
        refine lv_aload_n hx hb (zat zrX12_bestDay_1_ok 1 rfl) rfl (lv_at hl 3 rfl) ?_
        refine lv_iload_n hx hb (zat zrX12_bestDay_1_ok 2 rfl) rfl (lv_at hl 2 rfl) ?_
        obtain ⟨o123, eo123⟩ : ∃ o, o = f_X12_good v24_l1 ((0 : Int32), m_t.2) := ⟨_, rfl⟩
        have h := nm_of h o123 eo123
        refine ck_i (wc := ([(a0, .inr (9, [.int 0, .int m_t.2.1, .int m_t.2.2, .ref a1, g7, g8, g9, g10, g11, g12, g13, g14, g15, g16, g17, .ref a2, g18, g19, g20, g21, g22, g23, g24, g25, g26, g27, g28, g29, g30, g31]))])) (wr := (bX11 a1 uq kq q_q ([(a2, .inl (cB33, 26, .inl m_v))]))) hP hD hK hS hA [0] [1, 2, 3, 4, 5, 6, 7, 8, 9, 10, 11, 12, 13, 14, 15, 16] rfl rfl (by decide) (by decide) (by decide) (fun hPc hDc => (va_runV (As := [.int v24_l1]) (rest := []) ⟨hx, hb, hml, hown, hts⟩ (kfX12_good l dC dI a0 v24_l1 ((0 : Int32), m_t.2) (.ref a1) (g7) (g8) (g9) (g10) (g11) (g12) (g13) (g14) (g15) (g16) (g17) (.ref a2) (g18) (g19) (g20) (g21) (g22) (g23) (g24) (g25) (g26) (g27) (g28) (g29) (g30) (g31) H.size o123 eo123.symm) (cwV 1 hts gfX12_bestDay_0 rfl rfl rfl (by decide +kernel) ⟨(Nat.le_of_ble_eq_true rfl), (Nat.le_of_ble_eq_true rfl)⟩) (PV hPc (hK.sub (tys' := ([])) [] rfl) hDc hN 0 rfl rfl) rfl rfl hl.1 rfl (lv_room (Nat.le_of_ble_eq_true rfl)) (zat zrX12_bestDay_1_ok 3 rfl) ⟨(Nat.le_of_ble_eq_true rfl), (Nat.le_of_ble_eq_true rfl)⟩)) (fun r123 _ H locs hw hP hD _ hS => ?_)
        obtain rfl := hw
        obtain ⟨hP, hD⟩ := pd_mk (bX11 a1 uq kq q_q ([(a2, .inl (cB33, 26, .inl m_v)), (a0, .inr (9, [.int o123.2.1, .int o123.2.2.1, .int o123.2.2.2, .ref a1, g7, g8, g9, g10, g11, g12, g13, g14, g15, g16, g17, .ref a2, g18, g19, g20, g21, g22, g23, g24, g25, g26, g27, g28, g29, g30, g31]))])) hP hD
        obtain rfl := Option.some.inj h
        obtain ⟨hP9, hD9⟩ := pd_sub ((a0, .inr (9, [.int o123.2.1, .int o123.2.2.1, .int o123.2.2.2, .ref a1, g7, g8, g9, g10, g11, g12, g13, g14, g15, g16, g17, .ref a2, g18, g19, g20, g21, g22, g23, g24, g25, g26, g27, g28, g29, g30, g31])) :: bX11 a1 uq kq q_q ([(a2, .inl (cB33, 26, .inl m_v))])) [16, 0, 1, 2, 3, 4, 5, 6, 7, 8, 9, 10, 11, 12, 13, 14, 15] hP hD (by decide) rfl
        have hK9 := hK.sub (tys' := []) [] rfl
        rw [hQQ]
        exact W.iret (v := o123.1) hx hb hr (fun t ht hW => ⟨⟨o123.1, (), rfl, rfl, by rw [ht]; exact hP9, va_K.moved hW.alike hK9, hD9⟩, hS.F ht⟩) hS.2.2 (zat zrX12_bestDay_1_ok 4 rfl)
      · have h := (if_neg c27).symm.trans h
        refine lv_iconst (v := 0) hx hb (zat zrX12_bestDay_0_ok 16 rfl) (by decide) ?_
        refine lv_istore (lv' := [(4, .int 0), (3, .int v24_l3), (2, .int v24_l2), (1, .int v24_l1), (0, .ref a0)]) hx hb (zat zrX12_bestDay_0_ok 17 rfl) hl (by decide) rfl (fun ls hl => ?_)
        refine lv_iconst (v := 0) hx hb (zat zrX12_bestDay_0_ok 18 rfl) (by decide) ?_
        refine lv_istore (lv' := [(5, .int 0), (4, .int 0), (3, .int v24_l3), (2, .int v24_l2), (1, .int v24_l1), (0, .ref a0)]) hx hb (zat zrX12_bestDay_0_ok 19 rfl) hl (by decide) rfl (fun ls hl => ?_)
        have L36 : ∀ (n36 : Nat) (v36_l5 : Int32) (v36_l4 : Int32) (H : Heap) (locs : List Loc) (ls : Array Slot), f_X12_bestDay_L36 m_v q_q (f_X12_bestDay_L24 m_t m_v q_q n24) v24_l1 v24_l2 v24_l3 n36 v36_l5 v36_l4 = some out → va_P (dC, dI) vwCl ((a0, .inr (9, [.int 0, .int m_t.2.1, .int m_t.2.2, .ref a1, g7, g8, g9, g10, g11, g12, g13, g14, g15, g16, g17, .ref a2, g18, g19, g20, g21, g22, g23, g24, g25, g26, g27, g28, g29, g30, g31])) :: bX11 a1 uq kq q_q ([(a2, .inl (cB33, 26, .inl m_v))])) H → va_D A ((a0, .inr (9, [.int 0, .int m_t.2.1, .int m_t.2.2, .ref a1, g7, g8, g9, g10, g11, g12, g13, g14, g15, g16, g17, .ref a2, g18, g19, g20, g21, g22, g23, g24, g25, g26, g27, g28, g29, g30, g31])) :: bX11 a1 uq kq q_q ([(a2, .inl (cB33, 26, .inl m_v))])) → va_S A s.heap H locs → lv_has ls 6 [(5, .int v36_l5), (4, .int v36_l4), (3, .int v24_l3), (2, .int v24_l2), (1, .int v24_l1), (0, .ref a0)] → W p l e (headSpec vfX12_bestDay { frames := 1, cells := 0, slots := 0, locals := 24 }).room s m ([.ref a0]).toArray below meth c H locs 0 0 QQ (F0 m 36 ls []) := by
          intro n36
          induction n36 with
          | zero =>
            intro v36_l5 v36_l4 H locs ls h  _ _ _ _
            rw [f_X12_bestDay_L36] at h
            cases h
          | succ n36 ih36 =>
            intro v36_l5 v36_l4 H locs ls h  hP hD hS hl
            rw [f_X12_bestDay_L36] at h
            refine lv_iload hx hb (zat zrX12_bestDay_0_ok 20 rfl) (lv_at hl 0 rfl) ?_
            refine lv_aload_n hx hb (zat zrX12_bestDay_0_ok 21 rfl) rfl (lv_at hl 5 rfl) ?_
            refine va_get (D := (dC, dI)) (ci := 9) (v := .ref a1) (C := RX12) (T := TX12) (N := 30) hx hb hts ifX12_bestDay_X12 hown hK hP 0 rfl rfl 3 (by decide) (hts (.fieldLink RX12 299 "HookPierModel" "pier" "LHookPierModel$Pier;") (List.mem_of_getElem? (i := 2) rfl)) (fun _ h9 => h9) rfl (zat zrX12_bestDay_0_ok 22 rfl) ?_
            refine va_getN (D := (dC, dI)) (ci := 8) (v := .int q_q.2.2.2.2.2.2.1) (C := RX11) (T := TX11) (N := 24) hx hb hts ifX12_bestDay_X11 hown hK hP 1 rfl rfl 6 (by decide) (va_Nw.use rfl (hN.1 (.fieldLinkNest RX12 231 "HookPierModel$Pier" "answers" "I" "HookPierModel") (List.mem_of_getElem? (i := 28) rfl))) (fun _ h9 => h9) rfl (zat zrX12_bestDay_0_ok 23 rfl) ?_
            refine lv_icmp_ge (tgt := 101) hx hb (zat zrX12_bestDay_0_ok 24 rfl) (by decide) (fun c45 => ?_) (fun c45 => ?_)
            · have h := (if_pos c45).symm.trans h
              refine lv_iload hx hb (zat zrX12_bestDay_0_ok 55 rfl) (lv_at hl 1 rfl) ?_
              refine lv_iload_n hx hb (zat zrX12_bestDay_0_ok 56 rfl) rfl (lv_at hl 3 rfl) ?_
              have J115 : ∀ (v115_l1 : Int32) (v115_l2 : Int32) (H : Heap) (locs : List Loc) (ls : Array Slot), f_X12_bestDay_J115 (f_X12_bestDay_L24 m_t m_v q_q n24) v24_l3 v115_l1 v115_l2 = some out → va_P (dC, dI) vwCl ((a0, .inr (9, [.int 0, .int m_t.2.1, .int m_t.2.2, .ref a1, g7, g8, g9, g10, g11, g12, g13, g14, g15, g16, g17, .ref a2, g18, g19, g20, g21, g22, g23, g24, g25, g26, g27, g28, g29, g30, g31])) :: bX11 a1 uq kq q_q ([(a2, .inl (cB33, 26, .inl m_v))])) H → va_D A ((a0, .inr (9, [.int 0, .int m_t.2.1, .int m_t.2.2, .ref a1, g7, g8, g9, g10, g11, g12, g13, g14, g15, g16, g17, .ref a2, g18, g19, g20, g21, g22, g23, g24, g25, g26, g27, g28, g29, g30, g31])) :: bX11 a1 uq kq q_q ([(a2, .inl (cB33, 26, .inl m_v))])) → va_S A s.heap H locs → lv_has ls 6 [(1, .int v115_l1), (2, .int v115_l2), (3, .int v24_l3), (0, .ref a0)] → W p l e (headSpec vfX12_bestDay { frames := 1, cells := 0, slots := 0, locals := 24 }).room s m ([.ref a0]).toArray below meth c H locs 0 0 QQ (F0 m 115 ls []) := by
                intro v115_l1 v115_l2 H locs ls h  hP hD hS hl
                rw [f_X12_bestDay_J115] at h
                refine lv_iinc (v := (v24_l3 + (1 : Int32))) (lv' := [(3, .int (v24_l3 + (1 : Int32))), (1, .int v115_l1), (2, .int v115_l2), (0, .ref a0)]) hx hb (zat zrX12_bestDay_0_ok 63 rfl) hl (k := 2) rfl rfl (by decide) rfl (fun ls hl => ?_)
                refine lv_goto (tgt := 24) hx hb (zat zrX12_bestDay_1_ok 0 rfl) (by decide) ?_
                exact ih24 (v24_l3 + (1 : Int32)) v115_l2 v115_l1 H _ ls h  hP hD hS (lv_sub hl [0, 2, 1, 3] rfl)
              refine lv_icmp_gt (tgt := 110) hx hb (zat zrX12_bestDay_0_ok 57 rfl) (by decide) (fun c104 => ?_) (fun c104 => ?_)
              · have h := (if_pos c104).symm.trans h
                refine lv_iload hx hb (zat zrX12_bestDay_0_ok 59 rfl) (lv_at hl 1 rfl) ?_
                refine lv_istore_n (lv' := [(2, .int v36_l4), (5, .int v36_l5), (4, .int v36_l4), (3, .int v24_l3), (1, .int v24_l1), (0, .ref a0)]) hx hb (zat zrX12_bestDay_0_ok 60 rfl) rfl hl (by decide) rfl (fun ls hl => ?_)
                refine lv_iload_n hx hb (zat zrX12_bestDay_0_ok 61 rfl) rfl (lv_at hl 3 rfl) ?_
                refine lv_istore_n (lv' := [(1, .int v24_l3), (2, .int v36_l4), (5, .int v36_l5), (4, .int v36_l4), (3, .int v24_l3), (0, .ref a0)]) hx hb (zat zrX12_bestDay_0_ok 62 rfl) rfl hl (by decide) rfl (fun ls hl => ?_)
                exact J115 v24_l3 v36_l4 H _ ls h  hP hD hS (lv_sub hl [0, 1, 4, 5] rfl)
              · have h := (if_neg c104).symm.trans h
                refine lv_goto (tgt := 115) hx hb (zat zrX12_bestDay_0_ok 58 rfl) (by decide) ?_
                exact J115 v24_l1 v24_l2 H _ ls h  hP hD hS (lv_sub hl [4, 3, 2, 5] rfl)
            · have h := (if_neg c45).symm.trans h
              refine lv_iload hx hb (zat zrX12_bestDay_0_ok 25 rfl) (lv_at hl 1 rfl) ?_
              refine lv_aload_n hx hb (zat zrX12_bestDay_0_ok 26 rfl) rfl (lv_at hl 5 rfl) ?_
              refine va_get (D := (dC, dI)) (ci := 9) (v := .ref a2) (C := RX12) (T := TX12) (N := 30) hx hb hts ifX12_bestDay_X12 hown hK hP 0 rfl rfl 15 (by decide) (hts (.fieldLink RX12 17 "HookPierModel" "v" "[I") (List.mem_of_getElem? (i := 7) rfl)) (fun _ h9 => h9) rfl (zat zrX12_bestDay_0_ok 27 rfl) ?_
              refine lv_iconst (v := 0) hx hb (zat zrX12_bestDay_0_ok 28 rfl) (by decide) ?_
              refine lv_iload hx hb (zat zrX12_bestDay_0_ok 29 rfl) (lv_at hl 0 rfl) ?_
              refine lv_iadd hx hb (zat zrX12_bestDay_0_ok 30 rfl) ?_
              obtain ⟨hg58, h⟩ := gA_of h
              refine va_iald hx hb hK hP 16 14 rfl rfl hg58 (zat zrX12_bestDay_0_ok 31 rfl) ?_
              refine lv_iconst (v := 1) hx hb (zat zrX12_bestDay_0_ok 32 rfl) (by decide) ?_
              have J92 : ∀ (v92_t1 : Int32) (H : Heap) (locs : List Loc) (ls : Array Slot), f_X12_bestDay_J92 (f_X12_bestDay_L36 m_v q_q (f_X12_bestDay_L24 m_t m_v q_q n24) v24_l1 v24_l2 v24_l3 n36) v36_l4 v36_l5 v92_t1 = some out → va_P (dC, dI) vwCl ((a0, .inr (9, [.int 0, .int m_t.2.1, .int m_t.2.2, .ref a1, g7, g8, g9, g10, g11, g12, g13, g14, g15, g16, g17, .ref a2, g18, g19, g20, g21, g22, g23, g24, g25, g26, g27, g28, g29, g30, g31])) :: bX11 a1 uq kq q_q ([(a2, .inl (cB33, 26, .inl m_v))])) H → va_D A ((a0, .inr (9, [.int 0, .int m_t.2.1, .int m_t.2.2, .ref a1, g7, g8, g9, g10, g11, g12, g13, g14, g15, g16, g17, .ref a2, g18, g19, g20, g21, g22, g23, g24, g25, g26, g27, g28, g29, g30, g31])) :: bX11 a1 uq kq q_q ([(a2, .inl (cB33, 26, .inl m_v))])) → va_S A s.heap H locs → lv_has ls 6 [(5, .int v36_l5), (3, .int v24_l3), (2, .int v24_l2), (1, .int v24_l1), (0, .ref a0)] → W p l e (headSpec vfX12_bestDay { frames := 1, cells := 0, slots := 0, locals := 24 }).room s m ([.ref a0]).toArray below meth c H locs 0 0 QQ (F0 m 92 ls [.int v92_t1, .int v36_l4]) := by
                intro v92_t1 H locs ls h  hP hD hS hl
                rw [f_X12_bestDay_J92] at h
                refine lv_iadd hx hb (zat zrX12_bestDay_0_ok 51 rfl) ?_
                refine lv_istore (lv' := [(4, .int (v36_l4 + v92_t1)), (5, .int v36_l5), (3, .int v24_l3), (2, .int v24_l2), (1, .int v24_l1), (0, .ref a0)]) hx hb (zat zrX12_bestDay_0_ok 52 rfl) hl (by decide) rfl (fun ls hl => ?_)
                refine lv_iinc (v := (v36_l5 + (1 : Int32))) (lv' := [(5, .int (v36_l5 + (1 : Int32))), (4, .int (v36_l4 + v92_t1)), (3, .int v24_l3), (2, .int v24_l2), (1, .int v24_l1), (0, .ref a0)]) hx hb (zat zrX12_bestDay_0_ok 53 rfl) hl (k := 1) rfl rfl (by decide) rfl (fun ls hl => ?_)
                refine lv_goto (tgt := 36) hx hb (zat zrX12_bestDay_0_ok 54 rfl) (by decide) ?_
                exact ih36 (v36_l5 + (1 : Int32)) (v36_l4 + v92_t1) H _ ls h  hP hD hS (lv_sub hl [0, 1, 2, 3, 4, 5] rfl)
              refine lv_icmp_ne (tgt := 91) hx hb (zat zrX12_bestDay_0_ok 33 rfl) (by decide) (fun c60 => ?_) (fun c60 => ?_)
              · have h := (if_neg c60).symm.trans h
                refine lv_iconst (v := 0) hx hb (zat zrX12_bestDay_0_ok 50 rfl) (by decide) ?_
                exact J92 (0 : Int32) H _ ls h  hP hD hS (lv_sub hl [0, 2, 3, 4, 5] rfl)
              · have h := (if_pos c60).symm.trans h
                refine lv_aload_n hx hb (zat zrX12_bestDay_0_ok 34 rfl) rfl (lv_at hl 5 rfl) ?_
                refine lv_iload hx hb (zat zrX12_bestDay_0_ok 35 rfl) (lv_at hl 0 rfl) ?_
                refine lv_aload_n hx hb (zat zrX12_bestDay_0_ok 36 rfl) rfl (lv_at hl 5 rfl) ?_
                refine va_get (D := (dC, dI)) (ci := 9) (v := .ref a2) (C := RX12) (T := TX12) (N := 30) hx hb hts ifX12_bestDay_X12 hown hK hP 0 rfl rfl 15 (by decide) (hts (.fieldLink RX12 17 "HookPierModel" "v" "[I") (List.mem_of_getElem? (i := 7) rfl)) (fun _ h9 => h9) rfl (zat zrX12_bestDay_0_ok 37 rfl) ?_
                refine lv_bipush (v := 6) hx hb (zat zrX12_bestDay_0_ok 38 rfl) (by decide) ?_
                refine lv_iload hx hb (zat zrX12_bestDay_0_ok 39 rfl) (lv_at hl 0 rfl) ?_
                refine lv_iadd hx hb (zat zrX12_bestDay_0_ok 40 rfl) ?_
                obtain ⟨hg75, h⟩ := gA_of h
                refine va_iald hx hb hK hP 16 14 rfl rfl hg75 (zat zrX12_bestDay_0_ok 41 rfl) ?_
                refine lv_aload_n hx hb (zat zrX12_bestDay_0_ok 42 rfl) rfl (lv_at hl 5 rfl) ?_
                refine va_get (D := (dC, dI)) (ci := 9) (v := .ref a2) (C := RX12) (T := TX12) (N := 30) hx hb hts ifX12_bestDay_X12 hown hK hP 0 rfl rfl 15 (by decide) (hts (.fieldLink RX12 17 "HookPierModel" "v" "[I") (List.mem_of_getElem? (i := 7) rfl)) (fun _ h9 => h9) rfl (zat zrX12_bestDay_0_ok 43 rfl) ?_
                refine lv_bipush (v := 23) hx hb (zat zrX12_bestDay_0_ok 44 rfl) (by decide) ?_
                refine va_iald hx hb hK hP 16 14 rfl rfl (by unfold vp_in; decide) (zat zrX12_bestDay_0_ok 45 rfl) ?_
                refine lv_iload_n hx hb (zat zrX12_bestDay_0_ok 46 rfl) rfl (lv_at hl 2 rfl) ?_
                refine lv_iadd hx hb (zat zrX12_bestDay_0_ok 47 rfl) ?_
                obtain ⟨o85, eo85, h⟩ := bd_of h
                refine ck_i (wc := ((a0, .inr (9, [.int 0, .int m_t.2.1, .int m_t.2.2, .ref a1, g7, g8, g9, g10, g11, g12, g13, g14, g15, g16, g17, .ref a2, g18, g19, g20, g21, g22, g23, g24, g25, g26, g27, g28, g29, g30, g31])) :: bX11 a1 uq kq q_q [])) (wr := ([(a2, .inl (cB33, 26, .inl m_v))])) hP hD hK hS hA [0, 1, 2, 3, 4, 5, 6, 7, 8, 9, 10, 11, 12, 13, 14, 15] [16] rfl rfl (by decide) (by decide) (by decide) (fun hPc hDc => (va_runV (As := [.int v36_l5, .int (m_v (((6 : Int32) + v36_l5)).toNatClampNeg), .int ((m_v ((23 : Int32)).toNatClampNeg) + v24_l3)]) (rest := [.int v36_l4]) ⟨hx, hb, hml, hown, hts⟩ (kfX12_keeps l dC dI a0 v36_l5 (m_v (((6 : Int32) + v36_l5)).toNatClampNeg) ((m_v ((23 : Int32)).toNatClampNeg) + v24_l3) a1 uq kq (.int 0) (.int m_t.2.1) (.int m_t.2.2) (g7) (g8) (g9) (g10) (g11) (g12) (g13) (g14) (g15) (g16) (g17) (.ref a2) (g18) (g19) (g20) (g21) (g22) (g23) (g24) (g25) (g26) (g27) (g28) (g29) (g30) (g31) q_q H.size o85 eo85) (cwV 3 hts gfX12_bestDay_1 rfl rfl rfl (by decide +kernel) ⟨(Nat.le_of_ble_eq_true rfl), (Nat.le_of_ble_eq_true rfl)⟩) (PV hPc (hK.sub (tys' := (tX11 kq ([]))) [0, 1, 2, 3, 4, 5, 6, 7, 8, 9, 10, 11, 12, 13] rfl) hDc hN 0 rfl rfl) rfl rfl hl.1 rfl (lv_room (Nat.le_of_ble_eq_true rfl)) (zat zrX12_bestDay_0_ok 48 rfl) ⟨(Nat.le_of_ble_eq_true rfl), (Nat.le_of_ble_eq_true rfl)⟩)) (fun r85 _ H locs hw hP hD _ hS => ?_)
                obtain rfl := hw.symm
                obtain ⟨hP, hD⟩ := pd_mk ((a2, .inl (cB33, 26, .inl m_v)) :: (a0, .inr (9, [.int 0, .int m_t.2.1, .int m_t.2.2, .ref a1, g7, g8, g9, g10, g11, g12, g13, g14, g15, g16, g17, .ref a2, g18, g19, g20, g21, g22, g23, g24, g25, g26, g27, g28, g29, g30, g31])) :: bX11 a1 uq kq q_q []) hP hD
                refine lv_goto (tgt := 92) hx hb (zat zrX12_bestDay_0_ok 49 rfl) (by decide) ?_
                exact J92 o85 H _ ls h  (hP.sub (ws' := ((a0, .inr (9, [.int 0, .int m_t.2.1, .int m_t.2.2, .ref a1, g7, g8, g9, g10, g11, g12, g13, g14, g15, g16, g17, .ref a2, g18, g19, g20, g21, g22, g23, g24, g25, g26, g27, g28, g29, g30, g31])) :: bX11 a1 uq kq q_q ([(a2, .inl (cB33, 26, .inl m_v))]))) [1, 2, 3, 4, 5, 6, 7, 8, 9, 10, 11, 12, 13, 14, 15, 16, 0] rfl) (hD.sub (ws' := ((a0, .inr (9, [.int 0, .int m_t.2.1, .int m_t.2.2, .ref a1, g7, g8, g9, g10, g11, g12, g13, g14, g15, g16, g17, .ref a2, g18, g19, g20, g21, g22, g23, g24, g25, g26, g27, g28, g29, g30, g31])) :: bX11 a1 uq kq q_q ([(a2, .inl (cB33, 26, .inl m_v))]))) [1, 2, 3, 4, 5, 6, 7, 8, 9, 10, 11, 12, 13, 14, 15, 16, 0] (by decide) rfl) hS (lv_sub hl [0, 2, 3, 4, 5] rfl)
        exact L36 FU (0 : Int32) (0 : Int32) H _ ls h  hP hD hS (lv_sub hl [0, 1, 2, 3, 4, 5] rfl)
  exact L24 FU (0 : Int32) (-1 : Int32) (0 : Int32) H _ ls h  hP hD hS (lv_sub hl [0, 1, 2, 3] rfl)
noncomputable def zrX12_hooks_0 : List ZR := zc 0 true (.aload_n 0) 1 (zc 1 true (.iconst 0) 1 (zc 2 true (.putfield 36) 3 (zc 5 true (.aload_n 0) 1 (zc 6 true (.iload_n 1) 1 (zc 7 true (.invokevirtual 320) 3 (zc 10 true (.ifCond .eq 24) 3 (zc 13 true (.aload_n 0) 1 (zc 14 true (.iload_n 2) 1 (zc 15 true (.invokevirtual 334) 3 (zc 18 true (.ifCond .eq 16) 3 (zc 21 true (.aload_n 0) 1 (zc 22 true (.iload_n 3) 1 (zc 23 true (.invokevirtual 334) 3 (zc 26 true (.ifCond .eq 8) 3 (zc 29 true (.iload_n 2) 1 (zc 30 true (.iload_n 3) 1 (zc 31 true (.if_icmp .ne 9) 3 (zc 34 true (.aload_n 0) 1 (zc 35 true (.iconst 1) 1 (zc 36 true (.invokevirtual 42) 3 (zc 39 true (.ireturn) 1 (zc 40 true (.iload 4) 2 (zc 42 true (.iconst 0) 1 (zc 43 true (.sipush 999) 3 (zc 46 true (.invokestatic 115) 3 (zc 49 true (.ifCond .ne 9) 3 (zc 52 true (.aload_n 0) 1 (zc 53 true (.iconst 2) 1 (zc 54 true (.invokevirtual 42) 3 (zc 57 true (.ireturn) 1 (zc 58 true (.aload_n 0) 1 (zc 59 true (.getfield 17) 3 (zc 62 true (.bipush 18) 2 (zc 64 true (.iload_n 2) 1 (zc 65 true (.iadd) 1 (zc 66 true (.iaload) 1 (zc 67 true (.bipush (-2)) 2 (zc 69 true (.if_icmp .eq 17) 3 (zc 72 true (.aload_n 0) 1 (zc 73 true (.getfield 17) 3 (zc 76 true (.bipush 18) 2 (zc 78 true (.iload_n 3) 1 (zc 79 true (.iadd) 1 (zc 80 true (.iaload) 1 (zc 81 true (.bipush (-2)) 2 (zc 83 true (.if_icmp .ne 9) 3 (zc 86 true (.aload_n 0) 1 (zc 87 true (.iconst 5) 1 (zc 88 true (.invokevirtual 42) 3 (zc 91 true (.ireturn) 1 (zc 92 true (.aload_n 0) 1 (zc 93 true (.iload_n 1) 1 (zc 94 true (.aload_n 0) 1 (zc 95 true (.getfield 17) 3 (zc 98 true (.bipush 18) 2 (zc 100 true (.iload_n 2) 1 (zc 101 true (.iadd) 1 (zc 102 true (.iaload) 1 (zc 103 true (.invokevirtual 346) 3 (zc 106 true (.istore 6) 2 (zc 108 true (.aload_n 0) 1 (zc 109 true (.iload_n 1) 1 (zc 110 true (.aload_n 0) 1 ([]))))))))))))))))))))))))))))))))))))))))))))))))))))))))))))))))
theorem zrX12_hooks_0_ok : zck 0 ((zby cX12_hooks).drop 0) zrX12_hooks_0 = true := by decide +kernel
noncomputable def zrX12_hooks_1 : List ZR := zc 111 true (.getfield 17) 3 (zc 114 true (.bipush 18) 2 (zc 116 true (.iload_n 3) 1 (zc 117 true (.iadd) 1 (zc 118 true (.iaload) 1 (zc 119 true (.invokevirtual 346) 3 (zc 122 true (.istore 7) 2 (zc 124 true (.iload 6) 2 (zc 126 true (.iload 7) 2 (zc 128 true (.iadd) 1 (zc 129 true (.ifCond .ne 9) 3 (zc 132 true (.aload_n 0) 1 (zc 133 true (.iconst 0) 1 (zc 134 true (.invokevirtual 46) 3 (zc 137 true (.ireturn) 1 (zc 138 true (.iload 4) 2 (zc 140 true (.iload 6) 2 (zc 142 true (.imul) 1 (zc 143 true (.iload 6) 2 (zc 145 true (.iload 7) 2 (zc 147 true (.iadd) 1 (zc 148 true (.idiv) 1 (zc 149 true (.istore 8) 2 (zc 151 true (.iload 4) 2 (zc 153 true (.iload 7) 2 (zc 155 true (.imul) 1 (zc 156 true (.iload 6) 2 (zc 158 true (.iload 7) 2 (zc 160 true (.iadd) 1 (zc 161 true (.idiv) 1 (zc 162 true (.istore 9) 2 (zc 164 true (.iload 4) 2 (zc 166 true (.iload 8) 2 (zc 168 true (.isub) 1 (zc 169 true (.iload 9) 2 (zc 171 true (.isub) 1 (zc 172 true (.istore 10) 2 (zc 174 true (.iload 5) 2 (zc 176 true (.ifCond .eq 24) 3 (zc 179 true (.aload_n 0) 1 (zc 180 true (.iload 9) 2 (zc 182 true (.iload 6) 2 (zc 184 true (.iload 7) 2 (zc 186 true (.if_icmp .ge 8) 3 (zc 189 true (.iload 10) 2 (zc 191 true (.goto 4) 3 (zc 194 true (.iconst 0) 1 (zc 195 true (.iadd) 1 (zc 196 true (.invokevirtual 46) 3 (zc 199 true (.ireturn) 1 (zc 200 true (.aload_n 0) 1 (zc 201 true (.iload 8) 2 (zc 203 true (.iload 6) 2 (zc 205 true (.iload 7) 2 (zc 207 true (.if_icmp .lt 8) 3 (zc 210 true (.iload 10) 2 (zc 212 true (.goto 4) 3 (zc 215 true (.iconst 0) 1 (zc 216 true (.iadd) 1 (zc 217 true (.invokevirtual 46) 3 (zc 220 true (.ireturn) 1 ([])))))))))))))))))))))))))))))))))))))))))))))))))))))))))))))
theorem zrX12_hooks_1_ok : zck 111 ((zby cX12_hooks).drop 111) zrX12_hooks_1 = true := by decide +kernel
def vfX12_hooks : List Cond := List.cons (.code yX12_hooks cX12_hooks 11 (some .int)) (apW [.fieldLink RX12 36 "HookPierModel" "thrown" "I", .methodLink RX12 320 yX12_isAnswer, .instanceMethod yX12_isAnswer, .selects RX12 yX12_isAnswer yX12_isAnswer, .initialized RX12, .methodLink RX12 42 yX12_refused, .instanceMethod yX12_refused, .selects RX12 yX12_refused yX12_refused, .methodLink RX12 334 yX12_isAsker, .instanceMethod yX12_isAsker, .selects RX12 yX12_isAsker yX12_isAsker, .methodLink RX12 115 yX12_in, .static yX12_in, .fieldLink RX12 17 "HookPierModel" "v" "[I", .methodLink RX12 346 yX12_wishOf, .instanceMethod yX12_wishOf, .selects RX12 yX12_wishOf yX12_wishOf, .methodLink RX12 46 yX12_good, .instanceMethod yX12_good, .selects RX12 yX12_good yX12_good] (apW wsX120 (apW vfX12_isAnswer (apW vfX12_refused (apW vfX12_isAsker (apW vfX12_in (apW vfX12_wishOf (vfX12_good))))))))
theorem ifX12_hooks_X12 : ∀ w ∈ wsX120, w ∈ vfX12_hooks := fun _ h => (List.mem_cons_of_mem _ (List.mem_append_right _ (List.mem_append_left _ h)))
theorem qfX12_hooks : Good vfX12_hooks := gd_cons (by decide +kernel) (gd_app (gd_dec (by decide +kernel) : Good [.fieldLink RX12 36 "HookPierModel" "thrown" "I", .methodLink RX12 320 yX12_isAnswer, .instanceMethod yX12_isAnswer, .selects RX12 yX12_isAnswer yX12_isAnswer, .initialized RX12, .methodLink RX12 42 yX12_refused, .instanceMethod yX12_refused, .selects RX12 yX12_refused yX12_refused, .methodLink RX12 334 yX12_isAsker, .instanceMethod yX12_isAsker, .selects RX12 yX12_isAsker yX12_isAsker, .methodLink RX12 115 yX12_in, .static yX12_in, .fieldLink RX12 17 "HookPierModel" "v" "[I", .methodLink RX12 346 yX12_wishOf, .instanceMethod yX12_wishOf, .selects RX12 yX12_wishOf yX12_wishOf, .methodLink RX12 46 yX12_good, .instanceMethod yX12_good, .selects RX12 yX12_good yX12_good]) (gd_app qsX12 (gd_app qfX12_isAnswer (gd_app qfX12_refused (gd_app qfX12_isAsker (gd_app qfX12_in (gd_app qfX12_wishOf qfX12_good)))))))
theorem gfX12_hooks_0 : GoodIn vfX12_hooks (wsV RX12 320 RX12 yX12_isAnswer vfX12_isAnswer) := goodIn_app (goodIn_r [.methodLink RX12 320 yX12_isAnswer, .instanceMethod yX12_isAnswer, .selects RX12 yX12_isAnswer yX12_isAnswer, .initialized RX12] [2, 3, 4, 5] rfl (by decide +kernel)) (goodIn_m (fun _ h => (List.mem_cons_of_mem _ (List.mem_append_right _ (List.mem_append_right _ (List.mem_append_left _ h))))) qfX12_isAnswer)
theorem gfX12_hooks_1 : GoodIn vfX12_hooks (wsV RX12 42 RX12 yX12_refused vfX12_refused) := goodIn_app (goodIn_r [.methodLink RX12 42 yX12_refused, .instanceMethod yX12_refused, .selects RX12 yX12_refused yX12_refused, .initialized RX12] [6, 7, 8, 5] rfl (by decide +kernel)) (goodIn_m (fun _ h => (List.mem_cons_of_mem _ (List.mem_append_right _ (List.mem_append_right _ (List.mem_append_right _ (List.mem_append_left _ h)))))) qfX12_refused)
theorem gfX12_hooks_2 : GoodIn vfX12_hooks (wsV RX12 334 RX12 yX12_isAsker vfX12_isAsker) := goodIn_app (goodIn_r [.methodLink RX12 334 yX12_isAsker, .instanceMethod yX12_isAsker, .selects RX12 yX12_isAsker yX12_isAsker, .initialized RX12] [9, 10, 11, 5] rfl (by decide +kernel)) (goodIn_m (fun _ h => (List.mem_cons_of_mem _ (List.mem_append_right _ (List.mem_append_right _ (List.mem_append_right _ (List.mem_append_right _ (List.mem_append_left _ h))))))) qfX12_isAsker)
theorem gfX12_hooks_3 : GoodIn vfX12_hooks (va_wsS RX12 115 yX12_in vfX12_in) := goodIn_app (goodIn_r [.methodLink RX12 115 yX12_in, .static yX12_in, .initialized RX12] [12, 13, 5] rfl (by decide +kernel)) (goodIn_m (fun _ h => (List.mem_cons_of_mem _ (List.mem_append_right _ (List.mem_append_right _ (List.mem_append_right _ (List.mem_append_right _ (List.mem_append_right _ (List.mem_append_left _ h)))))))) qfX12_in)
theorem gfX12_hooks_4 : GoodIn vfX12_hooks (wsV RX12 346 RX12 yX12_wishOf vfX12_wishOf) := goodIn_app (goodIn_r [.methodLink RX12 346 yX12_wishOf, .instanceMethod yX12_wishOf, .selects RX12 yX12_wishOf yX12_wishOf, .initialized RX12] [15, 16, 17, 5] rfl (by decide +kernel)) (goodIn_m (fun _ h => (List.mem_cons_of_mem _ (List.mem_append_right _ (List.mem_append_right _ (List.mem_append_right _ (List.mem_append_right _ (List.mem_append_right _ (List.mem_append_right _ (List.mem_append_left _ h))))))))) qfX12_wishOf)
theorem gfX12_hooks_5 : GoodIn vfX12_hooks (wsV RX12 46 RX12 yX12_good vfX12_good) := goodIn_app (goodIn_r [.methodLink RX12 46 yX12_good, .instanceMethod yX12_good, .selects RX12 yX12_good yX12_good, .initialized RX12] [18, 19, 20, 5] rfl (by decide +kernel)) (goodIn_m (fun _ h => (List.mem_cons_of_mem _ (List.mem_append_right _ (List.mem_append_right _ (List.mem_append_right _ (List.mem_append_right _ (List.mem_append_right _ (List.mem_append_right _ (List.mem_append_right _ h))))))))) qfX12_good)
set_option maxHeartbeats 2000000 in
set_option maxRecDepth 100000 in
theorem kfX12_hooks (l : Launch) (dC : Nat → ClassId) (dI : Nat → Nat → Nat) (a0 : Nat) (k1 : Int32) (k2 : Int32) (k3 : Int32) (k4 : Int32) (k5 : Int32) (a6 : Nat) (a7 : Nat) (uq : Nat → Nat) (kq : Nat → ClassId) (m_t : TX12_t) (m_v : TX12_v) (g12 : Value) (g13 : Value) (g14 : Value) (g15 : Value) (g16 : Value) (g17 : Value) (g18 : Value) (g19 : Value) (g20 : Value) (g21 : Value) (g22 : Value) (g23 : Value) (g24 : Value) (g25 : Value) (g26 : Value) (g27 : Value) (g28 : Value) (g29 : Value) (g30 : Value) (g31 : Value) (g32 : Value) (g33 : Value) (g34 : Value) (g35 : Value) (g36 : Value) (q_q : TX11_q) (cB38 : ClassId) (sz : Nat) (out : (Int32 × TX12_t)) (h : f_X12_hooks k1 k2 k3 k4 k5 m_t m_v q_q = some out) : KCi l yX12_hooks vfX12_hooks ({ frames := 4, cells := 0, slots := 0, locals := 93 }) (dC, dI) [.ref a0, .int k1, .int k2, .int k3, .int k4, .int k5] sz ((a0, .inr (9, [.int m_t.1, .int m_t.2.1, .int m_t.2.2, .ref a6, g12, g13, g14, g15, g16, g17, g18, g19, g20, g21, g22, .ref a7, g23, g24, g25, g26, g27, g28, g29, g30, g31, g32, g33, g34, g35, g36])) :: bX11 a6 uq kq q_q ([(a7, .inl (cB38, 26, .inl m_v))])) (tX11 kq ((cB38, .int) :: [])) (fun (r : Int32) _ => r = out.1) ((a0, .inr (9, [.int out.2.1, .int out.2.2.1, .int out.2.2.2, .ref a6, g12, g13, g14, g15, g16, g17, g18, g19, g20, g21, g22, .ref a7, g23, g24, g25, g26, g27, g28, g29, g30, g31, g32, g33, g34, g35, g36])) :: bX11 a6 uq kq q_q ([(a7, .inl (cB38, 26, .inl m_v))])) 0 0 := by
  refine Met.ofW (cc := cX12_hooks) (maxL := 11) (ret := (some .int)) (by decide) rfl ?_
  intro p e s m args below meth c s₁ B0 hml hv
  obtain ⟨rfl, hsz, hP, hK, hD0, hN⟩ := hv
  have hx := B0.exec
  have hb := B0.bytes
  have hr := B0.returns
  have hts := atoms_spec (ws := vfX12_hooks) B0.pre
  have hown : s.vm.findClass RX12 = some m.cls := findClass_of_methodNamed B0.named
  have hlocks := B0.notSynchronized
  subst hsz
  have hD := hD0.self (sz := s.heap.size)
  generalize hAe : va_A ((a0, .inr (9, [.int m_t.1, .int m_t.2.1, .int m_t.2.2, .ref a6, g12, g13, g14, g15, g16, g17, g18, g19, g20, g21, g22, .ref a7, g23, g24, g25, g26, g27, g28, g29, g30, g31, g32, g33, g34, g35, g36])) :: bX11 a6 uq kq q_q ([(a7, .inl (cB38, 26, .inl m_v))])) s.heap.size = A at hD ⊢
  have hA : ∀ q : Nat, s.heap.size ≤ q → A q := fun q h => by rw [← hAe]; exact Or.inr h
  have hS : va_S A s.heap s.heap [] := va_S.rf
  have hP : va_P (dC, dI) vwCl ((a0, .inr (9, [.int m_t.1, .int m_t.2.1, .int m_t.2.2, .ref a6, g12, g13, g14, g15, g16, g17, g18, g19, g20, g21, g22, .ref a7, g23, g24, g25, g26, g27, g28, g29, g30, g31, g32, g33, g34, g35, g36])) :: bX11 a6 uq kq q_q ([(a7, .inl (cB38, 26, .inl m_v))])) s.heap := hP
  have hl := lv_entry ([.ref a0, .int k1, .int k2, .int k3, .int k4, .int k5]) (n := 11) (Nat.le_of_ble_eq_true rfl)
  rw [lg_entry_eq]
  generalize (lg_sl ([.ref a0, .int k1, .int k2, .int k3, .int k4, .int k5]) ++ List.replicate (11 - (lg_sl ([.ref a0, .int k1, .int k2, .int k3, .int k4, .int k5])).length) Slot.unset).toArray = ls at hl ⊢
  have hl : lv_has ls 11 [(0, .ref a0), (1, .int k1), (2, .int k2), (3, .int k3), (4, .int k4), (5, .int k5)] := hl
  refine W_q (fun QQ hQQ => ?_)
  rw [f_X12_hooks] at h
  refine lv_aload_n hx hb (zat zrX12_hooks_0_ok 0 rfl) rfl (lv_at hl 0 rfl) ?_
  refine lv_iconst (v := 0) hx hb (zat zrX12_hooks_0_ok 1 rfl) (by decide) ?_
  refine va_put (D := (dC, dI)) (ci := 9) (v := .int 0) (ty := .int) (C := RX12) (T := TX12) (N := 30) hx hb hts ifX12_hooks_X12 tyX12 tyX12_ok nmX12 hown hK hP hD hS 0 rfl rfl 0 (by decide) (hts (.fieldLink RX12 36 "HookPierModel" "thrown" "I") (List.mem_of_getElem? (i := 1) rfl)) (fun _ h9 => h9) rfl (by decide +kernel) rfl rfl (Nat.le_of_ble_eq_true rfl) (zat zrX12_hooks_0_ok 2 rfl) (fun H locs hP hD hS => ?_)
  obtain ⟨hP, hD⟩ := pd_mk ((a0, .inr (9, [.int 0, .int m_t.2.1, .int m_t.2.2, .ref a6, g12, g13, g14, g15, g16, g17, g18, g19, g20, g21, g22, .ref a7, g23, g24, g25, g26, g27, g28, g29, g30, g31, g32, g33, g34, g35, g36])) :: bX11 a6 uq kq q_q ([(a7, .inl (cB38, 26, .inl m_v))])) hP hD
  refine lv_aload_n hx hb (zat zrX12_hooks_0_ok 3 rfl) rfl (lv_at hl 0 rfl) ?_
  refine lv_iload_n hx hb (zat zrX12_hooks_0_ok 4 rfl) rfl (lv_at hl 1 rfl) ?_
  obtain ⟨o7, eo7⟩ : ∃ o, o = f_X12_isAnswer k1 q_q := ⟨_, rfl⟩
  have h := nm_of h o7 eo7
  refine ck_i (wc := ((a0, .inr (9, [.int 0, .int m_t.2.1, .int m_t.2.2, .ref a6, g12, g13, g14, g15, g16, g17, g18, g19, g20, g21, g22, .ref a7, g23, g24, g25, g26, g27, g28, g29, g30, g31, g32, g33, g34, g35, g36])) :: bX11 a6 uq kq q_q [])) (wr := ([(a7, .inl (cB38, 26, .inl m_v))])) hP hD hK hS hA [0, 1, 2, 3, 4, 5, 6, 7, 8, 9, 10, 11, 12, 13, 14, 15] [16] rfl rfl (by decide) (by decide) (by decide) (fun hPc hDc => (va_runV (As := [.int k1]) (rest := []) ⟨hx, hb, hml, hown, hts⟩ (kfX12_isAnswer l dC dI a0 k1 a6 uq kq (.int 0) (.int m_t.2.1) (.int m_t.2.2) (g12) (g13) (g14) (g15) (g16) (g17) (g18) (g19) (g20) (g21) (g22) (.ref a7) (g23) (g24) (g25) (g26) (g27) (g28) (g29) (g30) (g31) (g32) (g33) (g34) (g35) (g36) q_q H.size o7 eo7.symm) (cwV 1 hts gfX12_hooks_0 rfl rfl rfl (by decide +kernel) ⟨(Nat.le_of_ble_eq_true rfl), (Nat.le_of_ble_eq_true rfl)⟩) (PV hPc (hK.sub (tys' := (tX11 kq ([]))) [0, 1, 2, 3, 4, 5, 6, 7, 8, 9, 10, 11, 12, 13] rfl) hDc hN 0 rfl rfl) rfl rfl hl.1 rfl (lv_room (Nat.le_of_ble_eq_true rfl)) (zat zrX12_hooks_0_ok 5 rfl) ⟨(Nat.le_of_ble_eq_true rfl), (Nat.le_of_ble_eq_true rfl)⟩)) (fun r7 _ H locs hw hP hD _ hS => ?_)
  obtain ⟨hw, br7⟩ := hw
  obtain rfl := hw.symm
  obtain ⟨hP, hD⟩ := pd_mk ((a7, .inl (cB38, 26, .inl m_v)) :: (a0, .inr (9, [.int 0, .int m_t.2.1, .int m_t.2.2, .ref a6, g12, g13, g14, g15, g16, g17, g18, g19, g20, g21, g22, .ref a7, g23, g24, g25, g26, g27, g28, g29, g30, g31, g32, g33, g34, g35, g36])) :: bX11 a6 uq kq q_q []) hP hD
  have J34 : ∀ (H : Heap) (locs : List Loc) (ls : Array Slot), f_X12_hooks_J34 m_t = some out → va_P (dC, dI) vwCl ((a7, .inl (cB38, 26, .inl m_v)) :: (a0, .inr (9, [.int 0, .int m_t.2.1, .int m_t.2.2, .ref a6, g12, g13, g14, g15, g16, g17, g18, g19, g20, g21, g22, .ref a7, g23, g24, g25, g26, g27, g28, g29, g30, g31, g32, g33, g34, g35, g36])) :: bX11 a6 uq kq q_q []) H → va_D A ((a7, .inl (cB38, 26, .inl m_v)) :: (a0, .inr (9, [.int 0, .int m_t.2.1, .int m_t.2.2, .ref a6, g12, g13, g14, g15, g16, g17, g18, g19, g20, g21, g22, .ref a7, g23, g24, g25, g26, g27, g28, g29, g30, g31, g32, g33, g34, g35, g36])) :: bX11 a6 uq kq q_q []) → va_S A s.heap H locs → lv_has ls 11 [(0, .ref a0)] → W p l e (headSpec vfX12_hooks { frames := 4, cells := 0, slots := 0, locals := 93 }).room s m ([.ref a0, .int k1, .int k2, .int k3, .int k4, .int k5]).toArray below meth c H locs 0 0 QQ (F0 m 34 ls []) := by
    intro  H locs ls h  hP hD hS hl
    rw [f_X12_hooks_J34] at h
    refine lv_aload_n hx hb (zat zrX12_hooks_0_ok 18 rfl) rfl (lv_at hl 0 rfl) ?_
    refine lv_iconst (v := 1) hx hb (zat zrX12_hooks_0_ok 19 rfl) (by decide) ?_
    obtain ⟨o36, eo36⟩ : ∃ o, o = f_X12_refused (1 : Int32) ((0 : Int32), m_t.2) := ⟨_, rfl⟩
    have h := nm_of h o36 eo36
    refine ck_i (wc := ([(a0, .inr (9, [.int 0, .int m_t.2.1, .int m_t.2.2, .ref a6, g12, g13, g14, g15, g16, g17, g18, g19, g20, g21, g22, .ref a7, g23, g24, g25, g26, g27, g28, g29, g30, g31, g32, g33, g34, g35, g36]))])) (wr := ((a7, .inl (cB38, 26, .inl m_v)) :: bX11 a6 uq kq q_q [])) hP hD hK hS hA [1] [0, 2, 3, 4, 5, 6, 7, 8, 9, 10, 11, 12, 13, 14, 15, 16] rfl rfl (by decide) (by decide) (by decide) (fun hPc hDc => (va_runV (As := [.int 1]) (rest := []) ⟨hx, hb, hml, hown, hts⟩ (kfX12_refused l dC dI a0 (1 : Int32) ((0 : Int32), m_t.2) (.ref a6) (g12) (g13) (g14) (g15) (g16) (g17) (g18) (g19) (g20) (g21) (g22) (.ref a7) (g23) (g24) (g25) (g26) (g27) (g28) (g29) (g30) (g31) (g32) (g33) (g34) (g35) (g36) H.size o36 eo36.symm) (cwV 1 hts gfX12_hooks_1 rfl rfl rfl (by decide +kernel) ⟨(Nat.le_of_ble_eq_true rfl), (Nat.le_of_ble_eq_true rfl)⟩) (PV hPc (hK.sub (tys' := ([])) [] rfl) hDc hN 0 rfl rfl) rfl rfl hl.1 rfl (lv_room (Nat.le_of_ble_eq_true rfl)) (zat zrX12_hooks_0_ok 20 rfl) ⟨(Nat.le_of_ble_eq_true rfl), (Nat.le_of_ble_eq_true rfl)⟩)) (fun r36 _ H locs hw hP hD _ hS => ?_)
    obtain rfl := hw
    obtain ⟨hP, hD⟩ := pd_mk ((a7, .inl (cB38, 26, .inl m_v)) :: bX11 a6 uq kq q_q ([(a0, .inr (9, [.int o36.1, .int o36.2.1, .int o36.2.2, .ref a6, g12, g13, g14, g15, g16, g17, g18, g19, g20, g21, g22, .ref a7, g23, g24, g25, g26, g27, g28, g29, g30, g31, g32, g33, g34, g35, g36]))])) hP hD
    obtain rfl := Option.some.inj h
    obtain ⟨hP9, hD9⟩ := pd_sub ((a0, .inr (9, [.int o36.1, .int o36.2.1, .int o36.2.2, .ref a6, g12, g13, g14, g15, g16, g17, g18, g19, g20, g21, g22, .ref a7, g23, g24, g25, g26, g27, g28, g29, g30, g31, g32, g33, g34, g35, g36])) :: bX11 a6 uq kq q_q ([(a7, .inl (cB38, 26, .inl m_v))])) [16, 1, 2, 3, 4, 5, 6, 7, 8, 9, 10, 11, 12, 13, 14, 15, 0] hP hD (by decide) rfl
    have hK9 := hK.sub (tys' := []) [] rfl
    rw [hQQ]
    exact W.iret (v := (-1 : Int32)) hx hb hr (fun t ht hW => ⟨⟨(-1 : Int32), (), rfl, rfl, by rw [ht]; exact hP9, va_K.moved hW.alike hK9, hD9⟩, hS.F ht⟩) hS.2.2 (zat zrX12_hooks_0_ok 21 rfl)
  refine lv_if_eq (tgt := 34) hx hb (zat zrX12_hooks_0_ok 6 rfl) (by decide) (fun c10 => ?_) (fun c10 => ?_)
  · have h := (if_pos c10).symm.trans h
    exact J34  H _ ls h  hP hD hS (lv_sub hl [0] rfl)
  · have h := (if_neg c10).symm.trans h
    refine lv_aload_n hx hb (zat zrX12_hooks_0_ok 7 rfl) rfl (lv_at hl 0 rfl) ?_
    refine lv_iload_n hx hb (zat zrX12_hooks_0_ok 8 rfl) rfl (lv_at hl 2 rfl) ?_
    obtain ⟨o15, eo15⟩ : ∃ o, o = f_X12_isAsker k2 q_q := ⟨_, rfl⟩
    have h := nm_of h o15 eo15
    refine ck_i (wc := ((a0, .inr (9, [.int 0, .int m_t.2.1, .int m_t.2.2, .ref a6, g12, g13, g14, g15, g16, g17, g18, g19, g20, g21, g22, .ref a7, g23, g24, g25, g26, g27, g28, g29, g30, g31, g32, g33, g34, g35, g36])) :: bX11 a6 uq kq q_q [])) (wr := ([(a7, .inl (cB38, 26, .inl m_v))])) hP hD hK hS hA [1, 2, 3, 4, 5, 6, 7, 8, 9, 10, 11, 12, 13, 14, 15, 16] [0] rfl rfl (by decide) (by decide) (by decide) (fun hPc hDc => (va_runV (As := [.int k2]) (rest := []) ⟨hx, hb, hml, hown, hts⟩ (kfX12_isAsker l dC dI a0 k2 a6 uq kq (.int 0) (.int m_t.2.1) (.int m_t.2.2) (g12) (g13) (g14) (g15) (g16) (g17) (g18) (g19) (g20) (g21) (g22) (.ref a7) (g23) (g24) (g25) (g26) (g27) (g28) (g29) (g30) (g31) (g32) (g33) (g34) (g35) (g36) q_q H.size o15 eo15.symm) (cwV 1 hts gfX12_hooks_2 rfl rfl rfl (by decide +kernel) ⟨(Nat.le_of_ble_eq_true rfl), (Nat.le_of_ble_eq_true rfl)⟩) (PV hPc (hK.sub (tys' := (tX11 kq ([]))) [0, 1, 2, 3, 4, 5, 6, 7, 8, 9, 10, 11, 12, 13] rfl) hDc hN 0 rfl rfl) rfl rfl hl.1 rfl (lv_room (Nat.le_of_ble_eq_true rfl)) (zat zrX12_hooks_0_ok 9 rfl) ⟨(Nat.le_of_ble_eq_true rfl), (Nat.le_of_ble_eq_true rfl)⟩)) (fun r15 _ H locs hw hP hD _ hS => ?_)
    obtain ⟨hw, br15⟩ := hw
    obtain rfl := hw.symm
    obtain ⟨hP, hD⟩ := pd_mk ((a7, .inl (cB38, 26, .inl m_v)) :: (a0, .inr (9, [.int 0, .int m_t.2.1, .int m_t.2.2, .ref a6, g12, g13, g14, g15, g16, g17, g18, g19, g20, g21, g22, .ref a7, g23, g24, g25, g26, g27, g28, g29, g30, g31, g32, g33, g34, g35, g36])) :: bX11 a6 uq kq q_q []) hP hD
    refine lv_if_eq (tgt := 34) hx hb (zat zrX12_hooks_0_ok 10 rfl) (by decide) (fun c18 => ?_) (fun c18 => ?_)
    · have h := (if_pos c18).symm.trans h
      exact J34  H _ ls h  hP hD hS (lv_sub hl [0] rfl)
    · have h := (if_neg c18).symm.trans h
      refine lv_aload_n hx hb (zat zrX12_hooks_0_ok 11 rfl) rfl (lv_at hl 0 rfl) ?_
      refine lv_iload_n hx hb (zat zrX12_hooks_0_ok 12 rfl) rfl (lv_at hl 3 rfl) ?_
      obtain ⟨o23, eo23⟩ : ∃ o, o = f_X12_isAsker k3 q_q := ⟨_, rfl⟩
      have h := nm_of h o23 eo23
      refine ck_i (wc := ((a0, .inr (9, [.int 0, .int m_t.2.1, .int m_t.2.2, .ref a6, g12, g13, g14, g15, g16, g17, g18, g19, g20, g21, g22, .ref a7, g23, g24, g25, g26, g27, g28, g29, g30, g31, g32, g33, g34, g35, g36])) :: bX11 a6 uq kq q_q [])) (wr := ([(a7, .inl (cB38, 26, .inl m_v))])) hP hD hK hS hA [1, 2, 3, 4, 5, 6, 7, 8, 9, 10, 11, 12, 13, 14, 15, 16] [0] rfl rfl (by decide) (by decide) (by decide) (fun hPc hDc => (va_runV (As := [.int k3]) (rest := []) ⟨hx, hb, hml, hown, hts⟩ (kfX12_isAsker l dC dI a0 k3 a6 uq kq (.int 0) (.int m_t.2.1) (.int m_t.2.2) (g12) (g13) (g14) (g15) (g16) (g17) (g18) (g19) (g20) (g21) (g22) (.ref a7) (g23) (g24) (g25) (g26) (g27) (g28) (g29) (g30) (g31) (g32) (g33) (g34) (g35) (g36) q_q H.size o23 eo23.symm) (cwV 1 hts gfX12_hooks_2 rfl rfl rfl (by decide +kernel) ⟨(Nat.le_of_ble_eq_true rfl), (Nat.le_of_ble_eq_true rfl)⟩) (PV hPc (hK.sub (tys' := (tX11 kq ([]))) [0, 1, 2, 3, 4, 5, 6, 7, 8, 9, 10, 11, 12, 13] rfl) hDc hN 0 rfl rfl) rfl rfl hl.1 rfl (lv_room (Nat.le_of_ble_eq_true rfl)) (zat zrX12_hooks_0_ok 13 rfl) ⟨(Nat.le_of_ble_eq_true rfl), (Nat.le_of_ble_eq_true rfl)⟩)) (fun r23 _ H locs hw hP hD _ hS => ?_)
      obtain ⟨hw, br23⟩ := hw
      obtain rfl := hw.symm
      obtain ⟨hP, hD⟩ := pd_mk ((a7, .inl (cB38, 26, .inl m_v)) :: (a0, .inr (9, [.int 0, .int m_t.2.1, .int m_t.2.2, .ref a6, g12, g13, g14, g15, g16, g17, g18, g19, g20, g21, g22, .ref a7, g23, g24, g25, g26, g27, g28, g29, g30, g31, g32, g33, g34, g35, g36])) :: bX11 a6 uq kq q_q []) hP hD
      refine lv_if_eq (tgt := 34) hx hb (zat zrX12_hooks_0_ok 14 rfl) (by decide) (fun c26 => ?_) (fun c26 => ?_)
      · have h := (if_pos c26).symm.trans h
        exact J34  H _ ls h  hP hD hS (lv_sub hl [0] rfl)
      · have h := (if_neg c26).symm.trans h
        refine lv_iload_n hx hb (zat zrX12_hooks_0_ok 15 rfl) rfl (lv_at hl 2 rfl) ?_
        refine lv_iload_n hx hb (zat zrX12_hooks_0_ok 16 rfl) rfl (lv_at hl 3 rfl) ?_
        refine lv_icmp_ne (tgt := 40) hx hb (zat zrX12_hooks_0_ok 17 rfl) (by decide) (fun c31 => ?_) (fun c31 => ?_)
        · have h := (if_neg c31).symm.trans h
          refine lv_iload hx hb (zat zrX12_hooks_0_ok 22 rfl) (lv_at hl 4 rfl) ?_
          refine lv_iconst (v := 0) hx hb (zat zrX12_hooks_0_ok 23 rfl) (by decide) ?_
          refine lv_sipush (v := 999) hx hb (zat zrX12_hooks_0_ok 24 rfl) (by decide) ?_
          obtain ⟨o46, eo46⟩ : ∃ o, o = f_X12_in k4 (0 : Int32) (999 : Int32) := ⟨_, rfl⟩
          have h := nm_of h o46 eo46
          refine ck_i (wc := []) (wr := ((a7, .inl (cB38, 26, .inl m_v)) :: (a0, .inr (9, [.int 0, .int m_t.2.1, .int m_t.2.2, .ref a6, g12, g13, g14, g15, g16, g17, g18, g19, g20, g21, g22, .ref a7, g23, g24, g25, g26, g27, g28, g29, g30, g31, g32, g33, g34, g35, g36])) :: bX11 a6 uq kq q_q [])) hP hD hK hS hA [] [0, 1, 2, 3, 4, 5, 6, 7, 8, 9, 10, 11, 12, 13, 14, 15, 16] rfl rfl (by decide) (by decide) (by decide) (fun hPc hDc => (va_runS (As := [.int k4, .int 0, .int 999]) (rest := []) ⟨hx, hb, hml, hown, hts⟩ (kfX12_in l dC dI k4 (0 : Int32) (999 : Int32) H.size o46 eo46.symm) (va_cwS 3 hts gfX12_hooks_3 rfl rfl rfl (by decide +kernel) ⟨(Nat.le_of_ble_eq_true rfl), (Nat.le_of_ble_eq_true rfl)⟩) (PS hPc (hK.sub (tys' := ([])) [] rfl) hDc hN) rfl rfl hl.1 rfl (lv_room (Nat.le_of_ble_eq_true rfl)) (zat zrX12_hooks_0_ok 25 rfl) ⟨(Nat.le_of_ble_eq_true rfl), (Nat.le_of_ble_eq_true rfl)⟩)) (fun r46 _ H locs hw hP hD _ hS => ?_)
          obtain ⟨hw, br46⟩ := hw
          obtain rfl := hw.symm
          obtain ⟨hP, hD⟩ := pd_mk ((a7, .inl (cB38, 26, .inl m_v)) :: (a0, .inr (9, [.int 0, .int m_t.2.1, .int m_t.2.2, .ref a6, g12, g13, g14, g15, g16, g17, g18, g19, g20, g21, g22, .ref a7, g23, g24, g25, g26, g27, g28, g29, g30, g31, g32, g33, g34, g35, g36])) :: bX11 a6 uq kq q_q []) hP hD
          refine lv_if_ne (tgt := 58) hx hb (zat zrX12_hooks_0_ok 26 rfl) (by decide) (fun c49 => ?_) (fun c49 => ?_)
          · have h := (if_neg c49).symm.trans h
            refine lv_aload_n hx hb (zat zrX12_hooks_0_ok 31 rfl) rfl (lv_at hl 0 rfl) ?_
            refine va_get (D := (dC, dI)) (ci := 9) (v := .ref a7) (C := RX12) (T := TX12) (N := 30) hx hb hts ifX12_hooks_X12 hown hK hP 1 rfl rfl 15 (by decide) (hts (.fieldLink RX12 17 "HookPierModel" "v" "[I") (List.mem_of_getElem? (i := 14) rfl)) (fun _ h9 => h9) rfl (zat zrX12_hooks_0_ok 32 rfl) ?_
            refine lv_bipush (v := 18) hx hb (zat zrX12_hooks_0_ok 33 rfl) (by decide) ?_
            refine lv_iload_n hx hb (zat zrX12_hooks_0_ok 34 rfl) rfl (lv_at hl 2 rfl) ?_
            refine lv_iadd hx hb (zat zrX12_hooks_0_ok 35 rfl) ?_
            obtain ⟨hg66, h⟩ := gA_of h
            refine va_iald hx hb hK hP 0 14 rfl rfl hg66 (zat zrX12_hooks_0_ok 36 rfl) ?_
            refine lv_bipush (v := (-2)) hx hb (zat zrX12_hooks_0_ok 37 rfl) (by decide) ?_
            have J86 : ∀ (H : Heap) (locs : List Loc) (ls : Array Slot), f_X12_hooks_J86 m_t = some out → va_P (dC, dI) vwCl ((a7, .inl (cB38, 26, .inl m_v)) :: (a0, .inr (9, [.int 0, .int m_t.2.1, .int m_t.2.2, .ref a6, g12, g13, g14, g15, g16, g17, g18, g19, g20, g21, g22, .ref a7, g23, g24, g25, g26, g27, g28, g29, g30, g31, g32, g33, g34, g35, g36])) :: bX11 a6 uq kq q_q []) H → va_D A ((a7, .inl (cB38, 26, .inl m_v)) :: (a0, .inr (9, [.int 0, .int m_t.2.1, .int m_t.2.2, .ref a6, g12, g13, g14, g15, g16, g17, g18, g19, g20, g21, g22, .ref a7, g23, g24, g25, g26, g27, g28, g29, g30, g31, g32, g33, g34, g35, g36])) :: bX11 a6 uq kq q_q []) → va_S A s.heap H locs → lv_has ls 11 [(0, .ref a0)] → W p l e (headSpec vfX12_hooks { frames := 4, cells := 0, slots := 0, locals := 93 }).room s m ([.ref a0, .int k1, .int k2, .int k3, .int k4, .int k5]).toArray below meth c H locs 0 0 QQ (F0 m 86 ls []) := by
              intro  H locs ls h  hP hD hS hl
              rw [f_X12_hooks_J86] at h
              refine lv_aload_n hx hb (zat zrX12_hooks_0_ok 47 rfl) rfl (lv_at hl 0 rfl) ?_
              refine lv_iconst (v := 5) hx hb (zat zrX12_hooks_0_ok 48 rfl) (by decide) ?_
              obtain ⟨o88, eo88⟩ : ∃ o, o = f_X12_refused (5 : Int32) ((0 : Int32), m_t.2) := ⟨_, rfl⟩
              have h := nm_of h o88 eo88
              refine ck_i (wc := ([(a0, .inr (9, [.int 0, .int m_t.2.1, .int m_t.2.2, .ref a6, g12, g13, g14, g15, g16, g17, g18, g19, g20, g21, g22, .ref a7, g23, g24, g25, g26, g27, g28, g29, g30, g31, g32, g33, g34, g35, g36]))])) (wr := ((a7, .inl (cB38, 26, .inl m_v)) :: bX11 a6 uq kq q_q [])) hP hD hK hS hA [1] [0, 2, 3, 4, 5, 6, 7, 8, 9, 10, 11, 12, 13, 14, 15, 16] rfl rfl (by decide) (by decide) (by decide) (fun hPc hDc => (va_runV (As := [.int 5]) (rest := []) ⟨hx, hb, hml, hown, hts⟩ (kfX12_refused l dC dI a0 (5 : Int32) ((0 : Int32), m_t.2) (.ref a6) (g12) (g13) (g14) (g15) (g16) (g17) (g18) (g19) (g20) (g21) (g22) (.ref a7) (g23) (g24) (g25) (g26) (g27) (g28) (g29) (g30) (g31) (g32) (g33) (g34) (g35) (g36) H.size o88 eo88.symm) (cwV 1 hts gfX12_hooks_1 rfl rfl rfl (by decide +kernel) ⟨(Nat.le_of_ble_eq_true rfl), (Nat.le_of_ble_eq_true rfl)⟩) (PV hPc (hK.sub (tys' := ([])) [] rfl) hDc hN 0 rfl rfl) rfl rfl hl.1 rfl (lv_room (Nat.le_of_ble_eq_true rfl)) (zat zrX12_hooks_0_ok 49 rfl) ⟨(Nat.le_of_ble_eq_true rfl), (Nat.le_of_ble_eq_true rfl)⟩)) (fun r88 _ H locs hw hP hD _ hS => ?_)
              obtain rfl := hw
              obtain ⟨hP, hD⟩ := pd_mk ((a7, .inl (cB38, 26, .inl m_v)) :: bX11 a6 uq kq q_q ([(a0, .inr (9, [.int o88.1, .int o88.2.1, .int o88.2.2, .ref a6, g12, g13, g14, g15, g16, g17, g18, g19, g20, g21, g22, .ref a7, g23, g24, g25, g26, g27, g28, g29, g30, g31, g32, g33, g34, g35, g36]))])) hP hD
              obtain rfl := Option.some.inj h
              obtain ⟨hP9, hD9⟩ := pd_sub ((a0, .inr (9, [.int o88.1, .int o88.2.1, .int o88.2.2, .ref a6, g12, g13, g14, g15, g16, g17, g18, g19, g20, g21, g22, .ref a7, g23, g24, g25, g26, g27, g28, g29, g30, g31, g32, g33, g34, g35, g36])) :: bX11 a6 uq kq q_q ([(a7, .inl (cB38, 26, .inl m_v))])) [16, 1, 2, 3, 4, 5, 6, 7, 8, 9, 10, 11, 12, 13, 14, 15, 0] hP hD (by decide) rfl
              have hK9 := hK.sub (tys' := []) [] rfl
              rw [hQQ]
              exact W.iret (v := (-1 : Int32)) hx hb hr (fun t ht hW => ⟨⟨(-1 : Int32), (), rfl, rfl, by rw [ht]; exact hP9, va_K.moved hW.alike hK9, hD9⟩, hS.F ht⟩) hS.2.2 (zat zrX12_hooks_0_ok 50 rfl)
            refine lv_icmp_eq (tgt := 86) hx hb (zat zrX12_hooks_0_ok 38 rfl) (by decide) (fun c69 => ?_) (fun c69 => ?_)
            · have h := (if_pos c69).symm.trans h
              exact J86  H _ ls h  hP hD hS (lv_sub hl [0] rfl)
            · have h := (if_neg c69).symm.trans h
              refine lv_aload_n hx hb (zat zrX12_hooks_0_ok 39 rfl) rfl (lv_at hl 0 rfl) ?_
              refine va_get (D := (dC, dI)) (ci := 9) (v := .ref a7) (C := RX12) (T := TX12) (N := 30) hx hb hts ifX12_hooks_X12 hown hK hP 1 rfl rfl 15 (by decide) (hts (.fieldLink RX12 17 "HookPierModel" "v" "[I") (List.mem_of_getElem? (i := 14) rfl)) (fun _ h9 => h9) rfl (zat zrX12_hooks_0_ok 40 rfl) ?_
              refine lv_bipush (v := 18) hx hb (zat zrX12_hooks_0_ok 41 rfl) (by decide) ?_
              refine lv_iload_n hx hb (zat zrX12_hooks_0_ok 42 rfl) rfl (lv_at hl 3 rfl) ?_
              refine lv_iadd hx hb (zat zrX12_hooks_0_ok 43 rfl) ?_
              obtain ⟨hg80, h⟩ := gA_of h
              refine va_iald hx hb hK hP 0 14 rfl rfl hg80 (zat zrX12_hooks_0_ok 44 rfl) ?_
              refine lv_bipush (v := (-2)) hx hb (zat zrX12_hooks_0_ok 45 rfl) (by decide) ?_
              refine lv_icmp_ne (tgt := 92) hx hb (zat zrX12_hooks_0_ok 46 rfl) (by decide) (fun c83 => ?_) (fun c83 => ?_)
              · have h := (if_neg c83).symm.trans h
                refine lv_aload_n hx hb (zat zrX12_hooks_0_ok 51 rfl) rfl (lv_at hl 0 rfl) ?_
                refine lv_iload_n hx hb (zat zrX12_hooks_0_ok 52 rfl) rfl (lv_at hl 1 rfl) ?_
                refine lv_aload_n hx hb (zat zrX12_hooks_0_ok 53 rfl) rfl (lv_at hl 0 rfl) ?_
                refine va_get (D := (dC, dI)) (ci := 9) (v := .ref a7) (C := RX12) (T := TX12) (N := 30) hx hb hts ifX12_hooks_X12 hown hK hP 1 rfl rfl 15 (by decide) (hts (.fieldLink RX12 17 "HookPierModel" "v" "[I") (List.mem_of_getElem? (i := 14) rfl)) (fun _ h9 => h9) rfl (zat zrX12_hooks_0_ok 54 rfl) ?_
                refine lv_bipush (v := 18) hx hb (zat zrX12_hooks_0_ok 55 rfl) (by decide) ?_
                refine lv_iload_n hx hb (zat zrX12_hooks_0_ok 56 rfl) rfl (lv_at hl 2 rfl) ?_
                refine lv_iadd hx hb (zat zrX12_hooks_0_ok 57 rfl) ?_
                obtain ⟨hg102, h⟩ := gA_of h
                refine va_iald hx hb hK hP 0 14 rfl rfl hg102 (zat zrX12_hooks_0_ok 58 rfl) ?_
                obtain ⟨o103, eo103, h⟩ := bd_of h
                refine ck_i (wc := ((a0, .inr (9, [.int 0, .int m_t.2.1, .int m_t.2.2, .ref a6, g12, g13, g14, g15, g16, g17, g18, g19, g20, g21, g22, .ref a7, g23, g24, g25, g26, g27, g28, g29, g30, g31, g32, g33, g34, g35, g36])) :: bX11 a6 uq kq q_q [])) (wr := ([(a7, .inl (cB38, 26, .inl m_v))])) hP hD hK hS hA [1, 2, 3, 4, 5, 6, 7, 8, 9, 10, 11, 12, 13, 14, 15, 16] [0] rfl rfl (by decide) (by decide) (by decide) (fun hPc hDc => (va_runV (As := [.int k1, .int (m_v (((18 : Int32) + k2)).toNatClampNeg)]) (rest := []) ⟨hx, hb, hml, hown, hts⟩ (kfX12_wishOf l dC dI a0 k1 (m_v (((18 : Int32) + k2)).toNatClampNeg) a6 uq kq (.int 0) (.int m_t.2.1) (.int m_t.2.2) (g12) (g13) (g14) (g15) (g16) (g17) (g18) (g19) (g20) (g21) (g22) (.ref a7) (g23) (g24) (g25) (g26) (g27) (g28) (g29) (g30) (g31) (g32) (g33) (g34) (g35) (g36) q_q H.size o103 eo103) (cwV 2 hts gfX12_hooks_4 rfl rfl rfl (by decide +kernel) ⟨(Nat.le_of_ble_eq_true rfl), (Nat.le_of_ble_eq_true rfl)⟩) (PV hPc (hK.sub (tys' := (tX11 kq ([]))) [0, 1, 2, 3, 4, 5, 6, 7, 8, 9, 10, 11, 12, 13] rfl) hDc hN 0 rfl rfl) rfl rfl hl.1 rfl (lv_room (Nat.le_of_ble_eq_true rfl)) (zat zrX12_hooks_0_ok 59 rfl) ⟨(Nat.le_of_ble_eq_true rfl), (Nat.le_of_ble_eq_true rfl)⟩)) (fun r103 _ H locs hw hP hD _ hS => ?_)
                obtain rfl := hw.symm
                obtain ⟨hP, hD⟩ := pd_mk ((a7, .inl (cB38, 26, .inl m_v)) :: (a0, .inr (9, [.int 0, .int m_t.2.1, .int m_t.2.2, .ref a6, g12, g13, g14, g15, g16, g17, g18, g19, g20, g21, g22, .ref a7, g23, g24, g25, g26, g27, g28, g29, g30, g31, g32, g33, g34, g35, g36])) :: bX11 a6 uq kq q_q []) hP hD
                refine lv_istore (lv' := [(6, .int o103), (0, .ref a0), (1, .int k1), (2, .int k2), (3, .int k3), (4, .int k4), (5, .int k5)]) hx hb (zat zrX12_hooks_0_ok 60 rfl) hl (by decide) rfl (fun ls hl => ?_)
                refine lv_aload_n hx hb (zat zrX12_hooks_0_ok 61 rfl) rfl (lv_at hl 1 rfl) ?_
                refine lv_iload_n hx hb (zat zrX12_hooks_0_ok 62 rfl) rfl (lv_at hl 2 rfl) ?_
                refine lv_aload_n hx hb (zat zrX12_hooks_0_ok 63 rfl) rfl (lv_at hl 1 rfl) ?_
                refine va_get (D := (dC, dI)) (ci := 9) (v := .ref a7) (C := RX12) (T := TX12) (N := 30) hx hb hts ifX12_hooks_X12 hown hK hP 1 rfl rfl 15 (by decide) (hts (.fieldLink RX12 17 "HookPierModel" "v" "[I") (List.mem_of_getElem? (i := 14) rfl)) (fun _ h9 => h9) rfl (zat zrX12_hooks_1_ok 0 rfl) ?_
                refine lv_bipush (v := 18) hx hb (zat zrX12_hooks_1_ok 1 rfl) (by decide) ?_
                refine lv_iload_n hx hb (zat zrX12_hooks_1_ok 2 rfl) rfl (lv_at hl 4 rfl) ?_
                refine lv_iadd hx hb (zat zrX12_hooks_1_ok 3 rfl) ?_
                obtain ⟨hg118, h⟩ := gA_of h
                refine va_iald hx hb hK hP 0 14 rfl rfl hg118 (zat zrX12_hooks_1_ok 4 rfl) ?_
                obtain ⟨o119, eo119, h⟩ := bd_of h
                refine ck_i (wc := ((a0, .inr (9, [.int 0, .int m_t.2.1, .int m_t.2.2, .ref a6, g12, g13, g14, g15, g16, g17, g18, g19, g20, g21, g22, .ref a7, g23, g24, g25, g26, g27, g28, g29, g30, g31, g32, g33, g34, g35, g36])) :: bX11 a6 uq kq q_q [])) (wr := ([(a7, .inl (cB38, 26, .inl m_v))])) hP hD hK hS hA [1, 2, 3, 4, 5, 6, 7, 8, 9, 10, 11, 12, 13, 14, 15, 16] [0] rfl rfl (by decide) (by decide) (by decide) (fun hPc hDc => (va_runV (As := [.int k1, .int (m_v (((18 : Int32) + k3)).toNatClampNeg)]) (rest := []) ⟨hx, hb, hml, hown, hts⟩ (kfX12_wishOf l dC dI a0 k1 (m_v (((18 : Int32) + k3)).toNatClampNeg) a6 uq kq (.int 0) (.int m_t.2.1) (.int m_t.2.2) (g12) (g13) (g14) (g15) (g16) (g17) (g18) (g19) (g20) (g21) (g22) (.ref a7) (g23) (g24) (g25) (g26) (g27) (g28) (g29) (g30) (g31) (g32) (g33) (g34) (g35) (g36) q_q H.size o119 eo119) (cwV 2 hts gfX12_hooks_4 rfl rfl rfl (by decide +kernel) ⟨(Nat.le_of_ble_eq_true rfl), (Nat.le_of_ble_eq_true rfl)⟩) (PV hPc (hK.sub (tys' := (tX11 kq ([]))) [0, 1, 2, 3, 4, 5, 6, 7, 8, 9, 10, 11, 12, 13] rfl) hDc hN 0 rfl rfl) rfl rfl hl.1 rfl (lv_room (Nat.le_of_ble_eq_true rfl)) (zat zrX12_hooks_1_ok 5 rfl) ⟨(Nat.le_of_ble_eq_true rfl), (Nat.le_of_ble_eq_true rfl)⟩)) (fun r119 _ H locs hw hP hD _ hS => ?_)
                obtain rfl := hw.symm
                obtain ⟨hP, hD⟩ := pd_mk ((a7, .inl (cB38, 26, .inl m_v)) :: (a0, .inr (9, [.int 0, .int m_t.2.1, .int m_t.2.2, .ref a6, g12, g13, g14, g15, g16, g17, g18, g19, g20, g21, g22, .ref a7, g23, g24, g25, g26, g27, g28, g29, g30, g31, g32, g33, g34, g35, g36])) :: bX11 a6 uq kq q_q []) hP hD
                refine lv_istore (lv' := [(7, .int o119), (6, .int o103), (0, .ref a0), (1, .int k1), (2, .int k2), (3, .int k3), (4, .int k4), (5, .int k5)]) hx hb (zat zrX12_hooks_1_ok 6 rfl) hl (by decide) rfl (fun ls hl => ?_)
                refine lv_iload hx hb (zat zrX12_hooks_1_ok 7 rfl) (lv_at hl 1 rfl) ?_
                refine lv_iload hx hb (zat zrX12_hooks_1_ok 8 rfl) (lv_at hl 0 rfl) ?_
                refine lv_iadd hx hb (zat zrX12_hooks_1_ok 9 rfl) ?_
                refine lv_if_ne (tgt := 138) hx hb (zat zrX12_hooks_1_ok 10 rfl) (by decide) (fun c129 => ?_) (fun c129 => ?_)
                · have h := (if_neg c129).symm.trans h
                  refine lv_iload hx hb (zat zrX12_hooks_1_ok 15 rfl) (lv_at hl 6 rfl) ?_
                  refine lv_iload hx hb (zat zrX12_hooks_1_ok 16 rfl) (lv_at hl 1 rfl) ?_
                  refine lv_imul hx hb (zat zrX12_hooks_1_ok 17 rfl) ?_
                  refine lv_iload hx hb (zat zrX12_hooks_1_ok 18 rfl) (lv_at hl 1 rfl) ?_
                  refine lv_iload hx hb (zat zrX12_hooks_1_ok 19 rfl) (lv_at hl 0 rfl) ?_
                  refine lv_iadd hx hb (zat zrX12_hooks_1_ok 20 rfl) ?_
                  obtain ⟨hg148, h⟩ := gZi_of h
                  refine lv_idiv hx hb (zat zrX12_hooks_1_ok 21 rfl) hg148 ?_
                  refine lv_istore (lv' := [(8, .int ((k4 * o103) / (o103 + o119))), (7, .int o119), (6, .int o103), (0, .ref a0), (1, .int k1), (2, .int k2), (3, .int k3), (4, .int k4), (5, .int k5)]) hx hb (zat zrX12_hooks_1_ok 22 rfl) hl (by decide) rfl (fun ls hl => ?_)
                  refine lv_iload hx hb (zat zrX12_hooks_1_ok 23 rfl) (lv_at hl 7 rfl) ?_
                  refine lv_iload hx hb (zat zrX12_hooks_1_ok 24 rfl) (lv_at hl 1 rfl) ?_
                  refine lv_imul hx hb (zat zrX12_hooks_1_ok 25 rfl) ?_
                  refine lv_iload hx hb (zat zrX12_hooks_1_ok 26 rfl) (lv_at hl 2 rfl) ?_
                  refine lv_iload hx hb (zat zrX12_hooks_1_ok 27 rfl) (lv_at hl 1 rfl) ?_
                  refine lv_iadd hx hb (zat zrX12_hooks_1_ok 28 rfl) ?_
                  obtain ⟨hg161, h⟩ := gZi_of h
                  refine lv_idiv hx hb (zat zrX12_hooks_1_ok 29 rfl) hg161 ?_
                  refine lv_istore (lv' := [(9, .int ((k4 * o119) / (o103 + o119))), (8, .int ((k4 * o103) / (o103 + o119))), (7, .int o119), (6, .int o103), (0, .ref a0), (1, .int k1), (2, .int k2), (3, .int k3), (4, .int k4), (5, .int k5)]) hx hb (zat zrX12_hooks_1_ok 30 rfl) hl (by decide) rfl (fun ls hl => ?_)
                  refine lv_iload hx hb (zat zrX12_hooks_1_ok 31 rfl) (lv_at hl 8 rfl) ?_
                  refine lv_iload hx hb (zat zrX12_hooks_1_ok 32 rfl) (lv_at hl 1 rfl) ?_
                  refine lv_isub hx hb (zat zrX12_hooks_1_ok 33 rfl) ?_
                  refine lv_iload hx hb (zat zrX12_hooks_1_ok 34 rfl) (lv_at hl 0 rfl) ?_
                  refine lv_isub hx hb (zat zrX12_hooks_1_ok 35 rfl) ?_
                  refine lv_topi (fun z171 ez171 => ?_)
                  have h := nm_of h z171 ez171
                  refine lv_istore (lv' := [(10, .int z171), (9, .int ((k4 * o119) / (o103 + o119))), (8, .int ((k4 * o103) / (o103 + o119))), (7, .int o119), (6, .int o103), (0, .ref a0), (1, .int k1), (2, .int k2), (3, .int k3), (4, .int k4), (5, .int k5)]) hx hb (zat zrX12_hooks_1_ok 36 rfl) hl (by decide) rfl (fun ls hl => ?_)
                  refine lv_iload hx hb (zat zrX12_hooks_1_ok 37 rfl) (lv_at hl 10 rfl) ?_
                  refine lv_if_eq (tgt := 200) hx hb (zat zrX12_hooks_1_ok 38 rfl) (by decide) (fun c176 => ?_) (fun c176 => ?_)
                  · have h := (if_pos c176).symm.trans h
                    refine lv_aload_n hx hb (zat zrX12_hooks_1_ok 50 rfl) rfl (lv_at hl 5 rfl) ?_
                    refine lv_iload hx hb (zat zrX12_hooks_1_ok 51 rfl) (lv_at hl 2 rfl) ?_
                    refine lv_iload hx hb (zat zrX12_hooks_1_ok 52 rfl) (lv_at hl 4 rfl) ?_
                    refine lv_iload hx hb (zat zrX12_hooks_1_ok 53 rfl) (lv_at hl 3 rfl) ?_
                    have J216 : ∀ (v216_t2 : Int32) (H : Heap) (locs : List Loc) (ls : Array Slot), f_X12_hooks_J216 k4 m_t o103 o119 v216_t2 = some out → va_P (dC, dI) vwCl ((a7, .inl (cB38, 26, .inl m_v)) :: (a0, .inr (9, [.int 0, .int m_t.2.1, .int m_t.2.2, .ref a6, g12, g13, g14, g15, g16, g17, g18, g19, g20, g21, g22, .ref a7, g23, g24, g25, g26, g27, g28, g29, g30, g31, g32, g33, g34, g35, g36])) :: bX11 a6 uq kq q_q []) H → va_D A ((a7, .inl (cB38, 26, .inl m_v)) :: (a0, .inr (9, [.int 0, .int m_t.2.1, .int m_t.2.2, .ref a6, g12, g13, g14, g15, g16, g17, g18, g19, g20, g21, g22, .ref a7, g23, g24, g25, g26, g27, g28, g29, g30, g31, g32, g33, g34, g35, g36])) :: bX11 a6 uq kq q_q []) → va_S A s.heap H locs → lv_has ls 11 [] → W p l e (headSpec vfX12_hooks { frames := 4, cells := 0, slots := 0, locals := 93 }).room s m ([.ref a0, .int k1, .int k2, .int k3, .int k4, .int k5]).toArray below meth c H locs 0 0 QQ (F0 m 216 ls [.int v216_t2, .int ((k4 * o103) / (o103 + o119)), .ref a0]) := by
                      intro v216_t2 H locs ls h  hP hD hS hl
                      rw [f_X12_hooks_J216] at h
                      refine lv_iadd hx hb (zat zrX12_hooks_1_ok 58 rfl) ?_
                      obtain ⟨o217, eo217⟩ : ∃ o, o = f_X12_good (((k4 * o103) / (o103 + o119)) + v216_t2) ((0 : Int32), m_t.2) := ⟨_, rfl⟩
                      have h := nm_of h o217 eo217
                      refine ck_i (wc := ([(a0, .inr (9, [.int 0, .int m_t.2.1, .int m_t.2.2, .ref a6, g12, g13, g14, g15, g16, g17, g18, g19, g20, g21, g22, .ref a7, g23, g24, g25, g26, g27, g28, g29, g30, g31, g32, g33, g34, g35, g36]))])) (wr := ((a7, .inl (cB38, 26, .inl m_v)) :: bX11 a6 uq kq q_q [])) hP hD hK hS hA [1] [0, 2, 3, 4, 5, 6, 7, 8, 9, 10, 11, 12, 13, 14, 15, 16] rfl rfl (by decide) (by decide) (by decide) (fun hPc hDc => (va_runV (As := [.int (((k4 * o103) / (o103 + o119)) + v216_t2)]) (rest := []) ⟨hx, hb, hml, hown, hts⟩ (kfX12_good l dC dI a0 (((k4 * o103) / (o103 + o119)) + v216_t2) ((0 : Int32), m_t.2) (.ref a6) (g12) (g13) (g14) (g15) (g16) (g17) (g18) (g19) (g20) (g21) (g22) (.ref a7) (g23) (g24) (g25) (g26) (g27) (g28) (g29) (g30) (g31) (g32) (g33) (g34) (g35) (g36) H.size o217 eo217.symm) (cwV 1 hts gfX12_hooks_5 rfl rfl rfl (by decide +kernel) ⟨(Nat.le_of_ble_eq_true rfl), (Nat.le_of_ble_eq_true rfl)⟩) (PV hPc (hK.sub (tys' := ([])) [] rfl) hDc hN 0 rfl rfl) rfl rfl hl.1 rfl (lv_room (Nat.le_of_ble_eq_true rfl)) (zat zrX12_hooks_1_ok 59 rfl) ⟨(Nat.le_of_ble_eq_true rfl), (Nat.le_of_ble_eq_true rfl)⟩)) (fun r217 _ H locs hw hP hD _ hS => ?_)
                      obtain rfl := hw
                      obtain ⟨hP, hD⟩ := pd_mk ((a7, .inl (cB38, 26, .inl m_v)) :: bX11 a6 uq kq q_q ([(a0, .inr (9, [.int o217.2.1, .int o217.2.2.1, .int o217.2.2.2, .ref a6, g12, g13, g14, g15, g16, g17, g18, g19, g20, g21, g22, .ref a7, g23, g24, g25, g26, g27, g28, g29, g30, g31, g32, g33, g34, g35, g36]))])) hP hD
                      obtain rfl := Option.some.inj h
                      obtain ⟨hP9, hD9⟩ := pd_sub ((a0, .inr (9, [.int o217.2.1, .int o217.2.2.1, .int o217.2.2.2, .ref a6, g12, g13, g14, g15, g16, g17, g18, g19, g20, g21, g22, .ref a7, g23, g24, g25, g26, g27, g28, g29, g30, g31, g32, g33, g34, g35, g36])) :: bX11 a6 uq kq q_q ([(a7, .inl (cB38, 26, .inl m_v))])) [16, 1, 2, 3, 4, 5, 6, 7, 8, 9, 10, 11, 12, 13, 14, 15, 0] hP hD (by decide) rfl
                      have hK9 := hK.sub (tys' := []) [] rfl
                      rw [hQQ]
                      exact W.iret (v := o217.1) hx hb hr (fun t ht hW => ⟨⟨o217.1, (), rfl, rfl, by rw [ht]; exact hP9, va_K.moved hW.alike hK9, hD9⟩, hS.F ht⟩) hS.2.2 (zat zrX12_hooks_1_ok 60 rfl)
                    refine lv_icmp_lt (tgt := 215) hx hb (zat zrX12_hooks_1_ok 54 rfl) (by decide) (fun c207 => ?_) (fun c207 => ?_)
                    · have h := (if_pos c207).symm.trans h
                      refine lv_iconst (v := 0) hx hb (zat zrX12_hooks_1_ok 57 rfl) (by decide) ?_
                      exact J216 (0 : Int32) H _ ls h  hP hD hS (lv_sub hl [] rfl)
                    · have h := (if_neg c207).symm.trans h
                      refine lv_iload hx hb (zat zrX12_hooks_1_ok 55 rfl) (lv_at hl 0 rfl) ?_
                      refine lv_goto (tgt := 216) hx hb (zat zrX12_hooks_1_ok 56 rfl) (by decide) ?_
                      exact J216 z171 H _ ls h  hP hD hS (lv_sub hl [] rfl)
                  · have h := (if_neg c176).symm.trans h
                    refine lv_aload_n hx hb (zat zrX12_hooks_1_ok 39 rfl) rfl (lv_at hl 5 rfl) ?_
                    refine lv_iload hx hb (zat zrX12_hooks_1_ok 40 rfl) (lv_at hl 1 rfl) ?_
                    refine lv_iload hx hb (zat zrX12_hooks_1_ok 41 rfl) (lv_at hl 4 rfl) ?_
                    refine lv_iload hx hb (zat zrX12_hooks_1_ok 42 rfl) (lv_at hl 3 rfl) ?_
                    have J195 : ∀ (v195_t2 : Int32) (H : Heap) (locs : List Loc) (ls : Array Slot), f_X12_hooks_J195 k4 m_t o103 o119 v195_t2 = some out → va_P (dC, dI) vwCl ((a7, .inl (cB38, 26, .inl m_v)) :: (a0, .inr (9, [.int 0, .int m_t.2.1, .int m_t.2.2, .ref a6, g12, g13, g14, g15, g16, g17, g18, g19, g20, g21, g22, .ref a7, g23, g24, g25, g26, g27, g28, g29, g30, g31, g32, g33, g34, g35, g36])) :: bX11 a6 uq kq q_q []) H → va_D A ((a7, .inl (cB38, 26, .inl m_v)) :: (a0, .inr (9, [.int 0, .int m_t.2.1, .int m_t.2.2, .ref a6, g12, g13, g14, g15, g16, g17, g18, g19, g20, g21, g22, .ref a7, g23, g24, g25, g26, g27, g28, g29, g30, g31, g32, g33, g34, g35, g36])) :: bX11 a6 uq kq q_q []) → va_S A s.heap H locs → lv_has ls 11 [] → W p l e (headSpec vfX12_hooks { frames := 4, cells := 0, slots := 0, locals := 93 }).room s m ([.ref a0, .int k1, .int k2, .int k3, .int k4, .int k5]).toArray below meth c H locs 0 0 QQ (F0 m 195 ls [.int v195_t2, .int ((k4 * o119) / (o103 + o119)), .ref a0]) := by
                      intro v195_t2 H locs ls h  hP hD hS hl
                      rw [f_X12_hooks_J195] at h
                      refine lv_iadd hx hb (zat zrX12_hooks_1_ok 47 rfl) ?_
                      obtain ⟨o196, eo196⟩ : ∃ o, o = f_X12_good (((k4 * o119) / (o103 + o119)) + v195_t2) ((0 : Int32), m_t.2) := ⟨_, rfl⟩
                      have h := nm_of h o196 eo196
                      refine ck_i (wc := ([(a0, .inr (9, [.int 0, .int m_t.2.1, .int m_t.2.2, .ref a6, g12, g13, g14, g15, g16, g17, g18, g19, g20, g21, g22, .ref a7, g23, g24, g25, g26, g27, g28, g29, g30, g31, g32, g33, g34, g35, g36]))])) (wr := ((a7, .inl (cB38, 26, .inl m_v)) :: bX11 a6 uq kq q_q [])) hP hD hK hS hA [1] [0, 2, 3, 4, 5, 6, 7, 8, 9, 10, 11, 12, 13, 14, 15, 16] rfl rfl (by decide) (by decide) (by decide) (fun hPc hDc => (va_runV (As := [.int (((k4 * o119) / (o103 + o119)) + v195_t2)]) (rest := []) ⟨hx, hb, hml, hown, hts⟩ (kfX12_good l dC dI a0 (((k4 * o119) / (o103 + o119)) + v195_t2) ((0 : Int32), m_t.2) (.ref a6) (g12) (g13) (g14) (g15) (g16) (g17) (g18) (g19) (g20) (g21) (g22) (.ref a7) (g23) (g24) (g25) (g26) (g27) (g28) (g29) (g30) (g31) (g32) (g33) (g34) (g35) (g36) H.size o196 eo196.symm) (cwV 1 hts gfX12_hooks_5 rfl rfl rfl (by decide +kernel) ⟨(Nat.le_of_ble_eq_true rfl), (Nat.le_of_ble_eq_true rfl)⟩) (PV hPc (hK.sub (tys' := ([])) [] rfl) hDc hN 0 rfl rfl) rfl rfl hl.1 rfl (lv_room (Nat.le_of_ble_eq_true rfl)) (zat zrX12_hooks_1_ok 48 rfl) ⟨(Nat.le_of_ble_eq_true rfl), (Nat.le_of_ble_eq_true rfl)⟩)) (fun r196 _ H locs hw hP hD _ hS => ?_)
                      obtain rfl := hw
                      obtain ⟨hP, hD⟩ := pd_mk ((a7, .inl (cB38, 26, .inl m_v)) :: bX11 a6 uq kq q_q ([(a0, .inr (9, [.int o196.2.1, .int o196.2.2.1, .int o196.2.2.2, .ref a6, g12, g13, g14, g15, g16, g17, g18, g19, g20, g21, g22, .ref a7, g23, g24, g25, g26, g27, g28, g29, g30, g31, g32, g33, g34, g35, g36]))])) hP hD
                      obtain rfl := Option.some.inj h
                      obtain ⟨hP9, hD9⟩ := pd_sub ((a0, .inr (9, [.int o196.2.1, .int o196.2.2.1, .int o196.2.2.2, .ref a6, g12, g13, g14, g15, g16, g17, g18, g19, g20, g21, g22, .ref a7, g23, g24, g25, g26, g27, g28, g29, g30, g31, g32, g33, g34, g35, g36])) :: bX11 a6 uq kq q_q ([(a7, .inl (cB38, 26, .inl m_v))])) [16, 1, 2, 3, 4, 5, 6, 7, 8, 9, 10, 11, 12, 13, 14, 15, 0] hP hD (by decide) rfl
                      have hK9 := hK.sub (tys' := []) [] rfl
                      rw [hQQ]
                      exact W.iret (v := o196.1) hx hb hr (fun t ht hW => ⟨⟨o196.1, (), rfl, rfl, by rw [ht]; exact hP9, va_K.moved hW.alike hK9, hD9⟩, hS.F ht⟩) hS.2.2 (zat zrX12_hooks_1_ok 49 rfl)
                    refine lv_icmp_ge (tgt := 194) hx hb (zat zrX12_hooks_1_ok 43 rfl) (by decide) (fun c186 => ?_) (fun c186 => ?_)
                    · have h := (if_pos c186).symm.trans h
                      refine lv_iconst (v := 0) hx hb (zat zrX12_hooks_1_ok 46 rfl) (by decide) ?_
                      exact J195 (0 : Int32) H _ ls h  hP hD hS (lv_sub hl [] rfl)
                    · have h := (if_neg c186).symm.trans h
                      refine lv_iload hx hb (zat zrX12_hooks_1_ok 44 rfl) (lv_at hl 0 rfl) ?_
                      refine lv_goto (tgt := 195) hx hb (zat zrX12_hooks_1_ok 45 rfl) (by decide) ?_
                      exact J195 z171 H _ ls h  hP hD hS (lv_sub hl [] rfl)
                · have h := (if_pos c129).symm.trans h
                  refine lv_aload_n hx hb (zat zrX12_hooks_1_ok 11 rfl) rfl (lv_at hl 2 rfl) ?_
                  refine lv_iconst (v := 0) hx hb (zat zrX12_hooks_1_ok 12 rfl) (by decide) ?_
                  obtain ⟨o134, eo134⟩ : ∃ o, o = f_X12_good (0 : Int32) ((0 : Int32), m_t.2) := ⟨_, rfl⟩
                  have h := nm_of h o134 eo134
                  refine ck_i (wc := ([(a0, .inr (9, [.int 0, .int m_t.2.1, .int m_t.2.2, .ref a6, g12, g13, g14, g15, g16, g17, g18, g19, g20, g21, g22, .ref a7, g23, g24, g25, g26, g27, g28, g29, g30, g31, g32, g33, g34, g35, g36]))])) (wr := ((a7, .inl (cB38, 26, .inl m_v)) :: bX11 a6 uq kq q_q [])) hP hD hK hS hA [1] [0, 2, 3, 4, 5, 6, 7, 8, 9, 10, 11, 12, 13, 14, 15, 16] rfl rfl (by decide) (by decide) (by decide) (fun hPc hDc => (va_runV (As := [.int 0]) (rest := []) ⟨hx, hb, hml, hown, hts⟩ (kfX12_good l dC dI a0 (0 : Int32) ((0 : Int32), m_t.2) (.ref a6) (g12) (g13) (g14) (g15) (g16) (g17) (g18) (g19) (g20) (g21) (g22) (.ref a7) (g23) (g24) (g25) (g26) (g27) (g28) (g29) (g30) (g31) (g32) (g33) (g34) (g35) (g36) H.size o134 eo134.symm) (cwV 1 hts gfX12_hooks_5 rfl rfl rfl (by decide +kernel) ⟨(Nat.le_of_ble_eq_true rfl), (Nat.le_of_ble_eq_true rfl)⟩) (PV hPc (hK.sub (tys' := ([])) [] rfl) hDc hN 0 rfl rfl) rfl rfl hl.1 rfl (lv_room (Nat.le_of_ble_eq_true rfl)) (zat zrX12_hooks_1_ok 13 rfl) ⟨(Nat.le_of_ble_eq_true rfl), (Nat.le_of_ble_eq_true rfl)⟩)) (fun r134 _ H locs hw hP hD _ hS => ?_)
                  obtain rfl := hw
                  obtain ⟨hP, hD⟩ := pd_mk ((a7, .inl (cB38, 26, .inl m_v)) :: bX11 a6 uq kq q_q ([(a0, .inr (9, [.int o134.2.1, .int o134.2.2.1, .int o134.2.2.2, .ref a6, g12, g13, g14, g15, g16, g17, g18, g19, g20, g21, g22, .ref a7, g23, g24, g25, g26, g27, g28, g29, g30, g31, g32, g33, g34, g35, g36]))])) hP hD
                  obtain rfl := Option.some.inj h
                  obtain ⟨hP9, hD9⟩ := pd_sub ((a0, .inr (9, [.int o134.2.1, .int o134.2.2.1, .int o134.2.2.2, .ref a6, g12, g13, g14, g15, g16, g17, g18, g19, g20, g21, g22, .ref a7, g23, g24, g25, g26, g27, g28, g29, g30, g31, g32, g33, g34, g35, g36])) :: bX11 a6 uq kq q_q ([(a7, .inl (cB38, 26, .inl m_v))])) [16, 1, 2, 3, 4, 5, 6, 7, 8, 9, 10, 11, 12, 13, 14, 15, 0] hP hD (by decide) rfl
                  have hK9 := hK.sub (tys' := []) [] rfl
                  rw [hQQ]
                  exact W.iret (v := o134.1) hx hb hr (fun t ht hW => ⟨⟨o134.1, (), rfl, rfl, by rw [ht]; exact hP9, va_K.moved hW.alike hK9, hD9⟩, hS.F ht⟩) hS.2.2 (zat zrX12_hooks_1_ok 14 rfl)
              · have h := (if_pos c83).symm.trans h
                exact J86  H _ ls h  hP hD hS (lv_sub hl [0] rfl)
          · have h := (if_pos c49).symm.trans h
            refine lv_aload_n hx hb (zat zrX12_hooks_0_ok 27 rfl) rfl (lv_at hl 0 rfl) ?_
            refine lv_iconst (v := 2) hx hb (zat zrX12_hooks_0_ok 28 rfl) (by decide) ?_
            obtain ⟨o54, eo54⟩ : ∃ o, o = f_X12_refused (2 : Int32) ((0 : Int32), m_t.2) := ⟨_, rfl⟩
            have h := nm_of h o54 eo54
            refine ck_i (wc := ([(a0, .inr (9, [.int 0, .int m_t.2.1, .int m_t.2.2, .ref a6, g12, g13, g14, g15, g16, g17, g18, g19, g20, g21, g22, .ref a7, g23, g24, g25, g26, g27, g28, g29, g30, g31, g32, g33, g34, g35, g36]))])) (wr := ((a7, .inl (cB38, 26, .inl m_v)) :: bX11 a6 uq kq q_q [])) hP hD hK hS hA [1] [0, 2, 3, 4, 5, 6, 7, 8, 9, 10, 11, 12, 13, 14, 15, 16] rfl rfl (by decide) (by decide) (by decide) (fun hPc hDc => (va_runV (As := [.int 2]) (rest := []) ⟨hx, hb, hml, hown, hts⟩ (kfX12_refused l dC dI a0 (2 : Int32) ((0 : Int32), m_t.2) (.ref a6) (g12) (g13) (g14) (g15) (g16) (g17) (g18) (g19) (g20) (g21) (g22) (.ref a7) (g23) (g24) (g25) (g26) (g27) (g28) (g29) (g30) (g31) (g32) (g33) (g34) (g35) (g36) H.size o54 eo54.symm) (cwV 1 hts gfX12_hooks_1 rfl rfl rfl (by decide +kernel) ⟨(Nat.le_of_ble_eq_true rfl), (Nat.le_of_ble_eq_true rfl)⟩) (PV hPc (hK.sub (tys' := ([])) [] rfl) hDc hN 0 rfl rfl) rfl rfl hl.1 rfl (lv_room (Nat.le_of_ble_eq_true rfl)) (zat zrX12_hooks_0_ok 29 rfl) ⟨(Nat.le_of_ble_eq_true rfl), (Nat.le_of_ble_eq_true rfl)⟩)) (fun r54 _ H locs hw hP hD _ hS => ?_)
            obtain rfl := hw
            obtain ⟨hP, hD⟩ := pd_mk ((a7, .inl (cB38, 26, .inl m_v)) :: bX11 a6 uq kq q_q ([(a0, .inr (9, [.int o54.1, .int o54.2.1, .int o54.2.2, .ref a6, g12, g13, g14, g15, g16, g17, g18, g19, g20, g21, g22, .ref a7, g23, g24, g25, g26, g27, g28, g29, g30, g31, g32, g33, g34, g35, g36]))])) hP hD
            obtain rfl := Option.some.inj h
            obtain ⟨hP9, hD9⟩ := pd_sub ((a0, .inr (9, [.int o54.1, .int o54.2.1, .int o54.2.2, .ref a6, g12, g13, g14, g15, g16, g17, g18, g19, g20, g21, g22, .ref a7, g23, g24, g25, g26, g27, g28, g29, g30, g31, g32, g33, g34, g35, g36])) :: bX11 a6 uq kq q_q ([(a7, .inl (cB38, 26, .inl m_v))])) [16, 1, 2, 3, 4, 5, 6, 7, 8, 9, 10, 11, 12, 13, 14, 15, 0] hP hD (by decide) rfl
            have hK9 := hK.sub (tys' := []) [] rfl
            rw [hQQ]
            exact W.iret (v := (-1 : Int32)) hx hb hr (fun t ht hW => ⟨⟨(-1 : Int32), (), rfl, rfl, by rw [ht]; exact hP9, va_K.moved hW.alike hK9, hD9⟩, hS.F ht⟩) hS.2.2 (zat zrX12_hooks_0_ok 30 rfl)
        · have h := (if_pos c31).symm.trans h
          exact J34  H _ ls h  hP hD hS (lv_sub hl [0] rfl)
noncomputable def zrX12_gets_0 : List ZR := zc 0 true (.iload_n 1) 1 (zc 1 true (.ifCond .ne 7) 3 (zc 4 true (.iconst 0) 1 (zc 5 true (.goto 10) 3 (zc 8 true (.iload_n 0) 1 (zc 9 true (.iload_n 1) 1 (zc 10 true (.imul) 1 (zc 11 true (.iload_n 1) 1 (zc 12 true (.iload_n 2) 1 (zc 13 true (.iadd) 1 (zc 14 true (.idiv) 1 (zc 15 true (.iconst 2) 1 (zc 16 true (.iload_n 1) 1 (zc 17 true (.imul) 1 (zc 18 true (.isub) 1 (zc 19 true (.ireturn) 1 ([]))))))))))))))))
theorem zrX12_gets_0_ok : zck 0 ((zby cX12_gets).drop 0) zrX12_gets_0 = true := by decide +kernel
def vfX12_gets : List Cond := .code yX12_gets cX12_gets 3 (some .int) :: ([])
theorem qfX12_gets : Good vfX12_gets := gd_cons (by decide +kernel) (gd_dec (by decide +kernel) : Good [])
set_option maxHeartbeats 2000000 in
set_option maxRecDepth 100000 in
theorem kfX12_gets (l : Launch) (dC : Nat → ClassId) (dI : Nat → Nat → Nat) (k0 : Int32) (k1 : Int32) (k2 : Int32) (sz : Nat) (out : Int32) (h : f_X12_gets k0 k1 k2 = some out) : KDi l yX12_gets vfX12_gets ({ frames := 0, cells := 0, slots := 0, locals := 0 }) (dC, dI) [.int k0, .int k1, .int k2] sz [] ([]) (fun (r : Int32) _ => r = out) 0 0 := by
  refine Met.ofW (cc := cX12_gets) (maxL := 3) (ret := (some .int)) (by decide) rfl ?_
  intro p e s m args below meth c s₁ B0 hml hv
  obtain ⟨rfl, hsz, hP, hK, hD0, hN⟩ := hv
  have hx := B0.exec
  have hb := B0.bytes
  have hr := B0.returns
  have hts := atoms_spec (ws := vfX12_gets) B0.pre
  have hown : s.vm.findClass RX12 = some m.cls := findClass_of_methodNamed B0.named
  have hlocks := B0.notSynchronized
  subst hsz
  have hD := hD0.self (sz := s.heap.size)
  generalize hAe : va_A [] s.heap.size = A at hD ⊢
  have hA : ∀ q : Nat, s.heap.size ≤ q → A q := fun q h => by rw [← hAe]; exact Or.inr h
  have hS : va_S A s.heap s.heap [] := va_S.rf
  have hP : va_P (dC, dI) vwCl [] s.heap := hP
  have hl := lv_entry ([.int k0, .int k1, .int k2]) (n := 3) (Nat.le_of_ble_eq_true rfl)
  rw [lg_entry_eq]
  generalize (lg_sl ([.int k0, .int k1, .int k2]) ++ List.replicate (3 - (lg_sl ([.int k0, .int k1, .int k2])).length) Slot.unset).toArray = ls at hl ⊢
  have hl : lv_has ls 3 [(0, .int k0), (1, .int k1), (2, .int k2)] := hl
  refine W_q (fun QQ hQQ => ?_)
  rw [f_X12_gets] at h
  refine lv_iload_n hx hb (zat zrX12_gets_0_ok 0 rfl) rfl (lv_at hl 1 rfl) ?_
  have J15 : ∀ (v15_t0 : Int32) (H : Heap) (locs : List Loc) (ls : Array Slot), f_X12_gets_J15 k1 v15_t0 = some out → va_P (dC, dI) vwCl [] H → va_D A [] → va_S A s.heap H locs → lv_has ls 3 [(1, .int k1)] → W p l e (headSpec vfX12_gets { frames := 0, cells := 0, slots := 0, locals := 0 }).room s m ([.int k0, .int k1, .int k2]).toArray below meth c H locs 0 0 QQ (F0 m 15 ls [.int v15_t0]) := by
    intro v15_t0 H locs ls h  hP hD hS hl
    rw [f_X12_gets_J15] at h
    refine lv_iconst (v := 2) hx hb (zat zrX12_gets_0_ok 11 rfl) (by decide) ?_
    refine lv_iload_n hx hb (zat zrX12_gets_0_ok 12 rfl) rfl (lv_at hl 0 rfl) ?_
    refine lv_imul hx hb (zat zrX12_gets_0_ok 13 rfl) ?_
    refine lv_isub hx hb (zat zrX12_gets_0_ok 14 rfl) ?_
    obtain rfl := Option.some.inj h
    obtain ⟨hP9, hD9⟩ := pd_sub [] [] hP hD (by decide) rfl
    have hK9 := hK.sub (tys' := []) [] rfl
    rw [hQQ]
    exact W.iret (v := (v15_t0 - ((2 : Int32) * k1))) hx hb hr (fun t ht hW => ⟨⟨(v15_t0 - ((2 : Int32) * k1)), (), rfl, rfl, by rw [ht]; exact hP9, va_K.moved hW.alike hK9, hD9⟩, hS.F ht⟩) hS.2.2 (zat zrX12_gets_0_ok 15 rfl)
  refine lv_if_ne (tgt := 8) hx hb (zat zrX12_gets_0_ok 1 rfl) (by decide) (fun c1 => ?_) (fun c1 => ?_)
  · have h := (if_neg c1).symm.trans h
    refine lv_iload_n hx hb (zat zrX12_gets_0_ok 4 rfl) rfl (lv_at hl 0 rfl) ?_
    refine lv_iload_n hx hb (zat zrX12_gets_0_ok 5 rfl) rfl (lv_at hl 1 rfl) ?_
    refine lv_imul hx hb (zat zrX12_gets_0_ok 6 rfl) ?_
    refine lv_iload_n hx hb (zat zrX12_gets_0_ok 7 rfl) rfl (lv_at hl 1 rfl) ?_
    refine lv_iload_n hx hb (zat zrX12_gets_0_ok 8 rfl) rfl (lv_at hl 2 rfl) ?_
    refine lv_iadd hx hb (zat zrX12_gets_0_ok 9 rfl) ?_
    obtain ⟨hg14, h⟩ := gZi_of h
    refine lv_idiv hx hb (zat zrX12_gets_0_ok 10 rfl) hg14 ?_
    exact J15 ((k0 * k1) / (k1 + k2)) s.heap _ ls h  hP hD hS (lv_sub hl [1] rfl)
  · have h := (if_pos c1).symm.trans h
    refine lv_iconst (v := 0) hx hb (zat zrX12_gets_0_ok 2 rfl) (by decide) ?_
    refine lv_goto (tgt := 15) hx hb (zat zrX12_gets_0_ok 3 rfl) (by decide) ?_
    exact J15 (0 : Int32) s.heap _ ls h  hP hD hS (lv_sub hl [1] rfl)
noncomputable def zrX12_lost_0 : List ZR := zc 0 true (.aload_n 0) 1 (zc 1 true (.iload_n 1) 1 (zc 2 true (.invokevirtual 42) 3 (zc 5 true (.pop) 1 (zc 6 true (.bipush (-100)) 2 (zc 8 true (.ireturn) 1 ([]))))))
theorem zrX12_lost_0_ok : zck 0 ((zby cX12_lost).drop 0) zrX12_lost_0 = true := by decide +kernel
def vfX12_lost : List Cond := List.cons (.code yX12_lost cX12_lost 2 (some .int)) (apW [.methodLink RX12 42 yX12_refused, .instanceMethod yX12_refused, .selects RX12 yX12_refused yX12_refused, .initialized RX12] (vfX12_refused))
theorem qfX12_lost : Good vfX12_lost := gd_cons (by decide +kernel) (gd_app (gd_dec (by decide +kernel) : Good [.methodLink RX12 42 yX12_refused, .instanceMethod yX12_refused, .selects RX12 yX12_refused yX12_refused, .initialized RX12]) qfX12_refused)
theorem gfX12_lost_0 : GoodIn vfX12_lost (wsV RX12 42 RX12 yX12_refused vfX12_refused) := goodIn_app (goodIn_r [.methodLink RX12 42 yX12_refused, .instanceMethod yX12_refused, .selects RX12 yX12_refused yX12_refused, .initialized RX12] [1, 2, 3, 4] rfl (by decide +kernel)) (goodIn_m (fun _ h => (List.mem_cons_of_mem _ (List.mem_append_right _ h))) qfX12_refused)
set_option maxHeartbeats 2000000 in
set_option maxRecDepth 100000 in
theorem kfX12_lost (l : Launch) (dC : Nat → ClassId) (dI : Nat → Nat → Nat) (a0 : Nat) (k1 : Int32) (m_t : TX12_t) (g3 : Value) (g4 : Value) (g5 : Value) (g6 : Value) (g7 : Value) (g8 : Value) (g9 : Value) (g10 : Value) (g11 : Value) (g12 : Value) (g13 : Value) (g14 : Value) (g15 : Value) (g16 : Value) (g17 : Value) (g18 : Value) (g19 : Value) (g20 : Value) (g21 : Value) (g22 : Value) (g23 : Value) (g24 : Value) (g25 : Value) (g26 : Value) (g27 : Value) (g28 : Value) (g29 : Value) (sz : Nat) (out : TX12_t) (h : f_X12_lost k1 m_t = out) : KCi l yX12_lost vfX12_lost ({ frames := 1, cells := 0, slots := 0, locals := 21 }) (dC, dI) [.ref a0, .int k1] sz ([(a0, .inr (9, [.int m_t.1, .int m_t.2.1, .int m_t.2.2, g3, g4, g5, g6, g7, g8, g9, g10, g11, g12, g13, g14, g15, g16, g17, g18, g19, g20, g21, g22, g23, g24, g25, g26, g27, g28, g29]))]) ([]) (fun (r : Int32) _ => r = (-100)) ([(a0, .inr (9, [.int out.1, .int out.2.1, .int out.2.2, g3, g4, g5, g6, g7, g8, g9, g10, g11, g12, g13, g14, g15, g16, g17, g18, g19, g20, g21, g22, g23, g24, g25, g26, g27, g28, g29]))]) 0 0 := by
  refine Met.ofW (cc := cX12_lost) (maxL := 2) (ret := (some .int)) (by decide) rfl ?_
  intro p e s m args below meth c s₁ B0 hml hv
  obtain ⟨rfl, hsz, hP, hK, hD0, hN⟩ := hv
  have hx := B0.exec
  have hb := B0.bytes
  have hr := B0.returns
  have hts := atoms_spec (ws := vfX12_lost) B0.pre
  have hown : s.vm.findClass RX12 = some m.cls := findClass_of_methodNamed B0.named
  have hlocks := B0.notSynchronized
  subst hsz
  have hD := hD0.self (sz := s.heap.size)
  generalize hAe : va_A ([(a0, .inr (9, [.int m_t.1, .int m_t.2.1, .int m_t.2.2, g3, g4, g5, g6, g7, g8, g9, g10, g11, g12, g13, g14, g15, g16, g17, g18, g19, g20, g21, g22, g23, g24, g25, g26, g27, g28, g29]))]) s.heap.size = A at hD ⊢
  have hA : ∀ q : Nat, s.heap.size ≤ q → A q := fun q h => by rw [← hAe]; exact Or.inr h
  have hS : va_S A s.heap s.heap [] := va_S.rf
  have hP : va_P (dC, dI) vwCl ([(a0, .inr (9, [.int m_t.1, .int m_t.2.1, .int m_t.2.2, g3, g4, g5, g6, g7, g8, g9, g10, g11, g12, g13, g14, g15, g16, g17, g18, g19, g20, g21, g22, g23, g24, g25, g26, g27, g28, g29]))]) s.heap := hP
  have hl := lv_entry ([.ref a0, .int k1]) (n := 2) (Nat.le_of_ble_eq_true rfl)
  rw [lg_entry_eq]
  generalize (lg_sl ([.ref a0, .int k1]) ++ List.replicate (2 - (lg_sl ([.ref a0, .int k1])).length) Slot.unset).toArray = ls at hl ⊢
  have hl : lv_has ls 2 [(0, .ref a0), (1, .int k1)] := hl
  refine W_q (fun QQ hQQ => ?_)
  rw [f_X12_lost] at h
  refine lv_aload_n hx hb (zat zrX12_lost_0_ok 0 rfl) rfl (lv_at hl 0 rfl) ?_
  refine lv_iload_n hx hb (zat zrX12_lost_0_ok 1 rfl) rfl (lv_at hl 1 rfl) ?_
  obtain ⟨o2, eo2⟩ : ∃ o, o = f_X12_refused k1 m_t := ⟨_, rfl⟩
  have h := nm_of h o2 eo2
  refine ck_i (wc := ([(a0, .inr (9, [.int m_t.1, .int m_t.2.1, .int m_t.2.2, g3, g4, g5, g6, g7, g8, g9, g10, g11, g12, g13, g14, g15, g16, g17, g18, g19, g20, g21, g22, g23, g24, g25, g26, g27, g28, g29]))])) (wr := []) hP hD hK hS hA [0] [] rfl rfl (by decide) (by decide) (by decide) (fun hPc hDc => (va_runV (As := [.int k1]) (rest := []) ⟨hx, hb, hml, hown, hts⟩ (kfX12_refused l dC dI a0 k1 m_t (g3) (g4) (g5) (g6) (g7) (g8) (g9) (g10) (g11) (g12) (g13) (g14) (g15) (g16) (g17) (g18) (g19) (g20) (g21) (g22) (g23) (g24) (g25) (g26) (g27) (g28) (g29) s.heap.size o2 eo2.symm) (cwV 1 hts gfX12_lost_0 rfl rfl rfl (by decide +kernel) ⟨(Nat.le_of_ble_eq_true rfl), (Nat.le_of_ble_eq_true rfl)⟩) (PV hPc (hK.sub (tys' := ([])) [] rfl) hDc hN 0 rfl rfl) rfl rfl hl.1 rfl (lv_room (Nat.le_of_ble_eq_true rfl)) (zat zrX12_lost_0_ok 2 rfl) ⟨(Nat.le_of_ble_eq_true rfl), (Nat.le_of_ble_eq_true rfl)⟩)) (fun r2 _ H locs hw hP hD _ hS => ?_)
  obtain rfl := hw
  obtain ⟨hP, hD⟩ := pd_mk ([(a0, .inr (9, [.int o2.1, .int o2.2.1, .int o2.2.2, g3, g4, g5, g6, g7, g8, g9, g10, g11, g12, g13, g14, g15, g16, g17, g18, g19, g20, g21, g22, g23, g24, g25, g26, g27, g28, g29]))]) hP hD
  refine lv_pop hx hb (zat zrX12_lost_0_ok 3 rfl) rfl ?_
  refine lv_bipush (v := (-100)) hx hb (zat zrX12_lost_0_ok 4 rfl) (by decide) ?_
  obtain rfl := h
  obtain ⟨hP9, hD9⟩ := pd_sub ([(a0, .inr (9, [.int o2.1, .int o2.2.1, .int o2.2.2, g3, g4, g5, g6, g7, g8, g9, g10, g11, g12, g13, g14, g15, g16, g17, g18, g19, g20, g21, g22, g23, g24, g25, g26, g27, g28, g29]))]) [0] hP hD (by decide) rfl
  have hK9 := hK.sub (tys' := []) [] rfl
  rw [hQQ]
  exact W.iret (v := (-100 : Int32)) hx hb hr (fun t ht hW => ⟨⟨(-100 : Int32), (), rfl, rfl, by rw [ht]; exact hP9, va_K.moved hW.alike hK9, hD9⟩, hS.F ht⟩) hS.2.2 (zat zrX12_lost_0_ok 5 rfl)
noncomputable def zrX12_lines_0 : List ZR := zc 0 true (.aload_n 0) 1 (zc 1 true (.iconst 0) 1 (zc 2 true (.putfield 36) 3 (zc 5 true (.aload_n 0) 1 (zc 6 true (.getfield 299) 3 (zc 9 true (.ifnonnull 9) 3 (zc 12 false (.nop) 6 (zc 18 true (.iload_n 1) 1 (zc 19 true (.iconst 0) 1 (zc 20 true (.bipush 99) 2 (zc 22 true (.invokestatic 115) 3 (zc 25 true (.ifCond .eq 23) 3 (zc 28 true (.iload_n 2) 1 (zc 29 true (.iconst 0) 1 (zc 30 true (.bipush 6) 2 (zc 32 true (.invokestatic 115) 3 (zc 35 true (.ifCond .eq 13) 3 (zc 38 true (.iload_n 3) 1 (zc 39 true (.iconst 0) 1 (zc 40 true (.bipush 6) 2 (zc 42 true (.invokestatic 115) 3 (zc 45 true (.ifCond .ne 9) 3 (zc 48 true (.aload_n 0) 1 (zc 49 true (.iconst 2) 1 (zc 50 true (.invokevirtual 451) 3 (zc 53 true (.ireturn) 1 (zc 54 true (.aload_n 0) 1 (zc 55 true (.iload 4) 2 (zc 57 true (.ifCond .eq 12) 3 (zc 60 true (.iload_n 1) 1 (zc 61 true (.iload_n 3) 1 (zc 62 true (.iload_n 2) 1 (zc 63 true (.invokestatic 454) 3 (zc 66 true (.goto 9) 3 (zc 69 true (.iload_n 1) 1 (zc 70 true (.iload_n 2) 1 (zc 71 true (.iload_n 3) 1 (zc 72 true (.invokestatic 454) 3 (zc 75 true (.invokevirtual 46) 3 (zc 78 true (.ireturn) 1 ([]))))))))))))))))))))))))))))))))))))))))
theorem zrX12_lines_0_ok : zck 0 ((zby cX12_lines).drop 0) zrX12_lines_0 = true := by decide +kernel
def vfX12_lines : List Cond := List.cons (.code yX12_lines cX12_lines 5 (some .int)) (apW [.fieldLink RX12 36 "HookPierModel" "thrown" "I", .fieldLink RX12 299 "HookPierModel" "pier" "LHookPierModel$Pier;", .methodLink RX12 115 yX12_in, .static yX12_in, .initialized RX12, .methodLink RX12 451 yX12_lost, .instanceMethod yX12_lost, .selects RX12 yX12_lost yX12_lost, .methodLink RX12 46 yX12_good, .instanceMethod yX12_good, .selects RX12 yX12_good yX12_good, .methodLink RX12 454 yX12_gets, .static yX12_gets] (apW wsX120 (apW vfX12_in (apW vfX12_lost (apW vfX12_good (vfX12_gets))))))
theorem ifX12_lines_X12 : ∀ w ∈ wsX120, w ∈ vfX12_lines := fun _ h => (List.mem_cons_of_mem _ (List.mem_append_right _ (List.mem_append_left _ h)))
theorem qfX12_lines : Good vfX12_lines := gd_cons (by decide +kernel) (gd_app (gd_dec (by decide +kernel) : Good [.fieldLink RX12 36 "HookPierModel" "thrown" "I", .fieldLink RX12 299 "HookPierModel" "pier" "LHookPierModel$Pier;", .methodLink RX12 115 yX12_in, .static yX12_in, .initialized RX12, .methodLink RX12 451 yX12_lost, .instanceMethod yX12_lost, .selects RX12 yX12_lost yX12_lost, .methodLink RX12 46 yX12_good, .instanceMethod yX12_good, .selects RX12 yX12_good yX12_good, .methodLink RX12 454 yX12_gets, .static yX12_gets]) (gd_app qsX12 (gd_app qfX12_in (gd_app qfX12_lost (gd_app qfX12_good qfX12_gets)))))
theorem gfX12_lines_0 : GoodIn vfX12_lines (va_wsS RX12 115 yX12_in vfX12_in) := goodIn_app (goodIn_r [.methodLink RX12 115 yX12_in, .static yX12_in, .initialized RX12] [3, 4, 5] rfl (by decide +kernel)) (goodIn_m (fun _ h => (List.mem_cons_of_mem _ (List.mem_append_right _ (List.mem_append_right _ (List.mem_append_left _ h))))) qfX12_in)
theorem gfX12_lines_1 : GoodIn vfX12_lines (wsV RX12 451 RX12 yX12_lost vfX12_lost) := goodIn_app (goodIn_r [.methodLink RX12 451 yX12_lost, .instanceMethod yX12_lost, .selects RX12 yX12_lost yX12_lost, .initialized RX12] [6, 7, 8, 5] rfl (by decide +kernel)) (goodIn_m (fun _ h => (List.mem_cons_of_mem _ (List.mem_append_right _ (List.mem_append_right _ (List.mem_append_right _ (List.mem_append_left _ h)))))) qfX12_lost)
theorem gfX12_lines_2 : GoodIn vfX12_lines (wsV RX12 46 RX12 yX12_good vfX12_good) := goodIn_app (goodIn_r [.methodLink RX12 46 yX12_good, .instanceMethod yX12_good, .selects RX12 yX12_good yX12_good, .initialized RX12] [9, 10, 11, 5] rfl (by decide +kernel)) (goodIn_m (fun _ h => (List.mem_cons_of_mem _ (List.mem_append_right _ (List.mem_append_right _ (List.mem_append_right _ (List.mem_append_right _ (List.mem_append_left _ h))))))) qfX12_good)
theorem gfX12_lines_3 : GoodIn vfX12_lines (va_wsS RX12 454 yX12_gets vfX12_gets) := goodIn_app (goodIn_r [.methodLink RX12 454 yX12_gets, .static yX12_gets, .initialized RX12] [12, 13, 5] rfl (by decide +kernel)) (goodIn_m (fun _ h => (List.mem_cons_of_mem _ (List.mem_append_right _ (List.mem_append_right _ (List.mem_append_right _ (List.mem_append_right _ (List.mem_append_right _ h))))))) qfX12_gets)
set_option maxHeartbeats 2000000 in
set_option maxRecDepth 100000 in
theorem kfX12_lines (l : Launch) (dC : Nat → ClassId) (dI : Nat → Nat → Nat) (a0 : Nat) (k1 : Int32) (k2 : Int32) (k3 : Int32) (k4 : Int32) (m_t : TX12_t) (a6 : Nat) (g7 : Value) (g8 : Value) (g9 : Value) (g10 : Value) (g11 : Value) (g12 : Value) (g13 : Value) (g14 : Value) (g15 : Value) (g16 : Value) (g17 : Value) (g18 : Value) (g19 : Value) (g20 : Value) (g21 : Value) (g22 : Value) (g23 : Value) (g24 : Value) (g25 : Value) (g26 : Value) (g27 : Value) (g28 : Value) (g29 : Value) (g30 : Value) (g31 : Value) (g32 : Value) (sz : Nat) (out : (Int32 × TX12_t)) (h : f_X12_lines k1 k2 k3 k4 m_t = some out) : KCi l yX12_lines vfX12_lines ({ frames := 2, cells := 0, slots := 0, locals := 42 }) (dC, dI) [.ref a0, .int k1, .int k2, .int k3, .int k4] sz ([(a0, .inr (9, [.int m_t.1, .int m_t.2.1, .int m_t.2.2, .ref a6, g7, g8, g9, g10, g11, g12, g13, g14, g15, g16, g17, g18, g19, g20, g21, g22, g23, g24, g25, g26, g27, g28, g29, g30, g31, g32]))]) ([]) (fun (r : Int32) _ => r = out.1) ([(a0, .inr (9, [.int out.2.1, .int out.2.2.1, .int out.2.2.2, .ref a6, g7, g8, g9, g10, g11, g12, g13, g14, g15, g16, g17, g18, g19, g20, g21, g22, g23, g24, g25, g26, g27, g28, g29, g30, g31, g32]))]) 0 0 := by
  refine Met.ofW (cc := cX12_lines) (maxL := 5) (ret := (some .int)) (by decide) rfl ?_
  intro p e s m args below meth c s₁ B0 hml hv
  obtain ⟨rfl, hsz, hP, hK, hD0, hN⟩ := hv
  have hx := B0.exec
  have hb := B0.bytes
  have hr := B0.returns
  have hts := atoms_spec (ws := vfX12_lines) B0.pre
  have hown : s.vm.findClass RX12 = some m.cls := findClass_of_methodNamed B0.named
  have hlocks := B0.notSynchronized
  subst hsz
  have hD := hD0.self (sz := s.heap.size)
  generalize hAe : va_A ([(a0, .inr (9, [.int m_t.1, .int m_t.2.1, .int m_t.2.2, .ref a6, g7, g8, g9, g10, g11, g12, g13, g14, g15, g16, g17, g18, g19, g20, g21, g22, g23, g24, g25, g26, g27, g28, g29, g30, g31, g32]))]) s.heap.size = A at hD ⊢
  have hA : ∀ q : Nat, s.heap.size ≤ q → A q := fun q h => by rw [← hAe]; exact Or.inr h
  have hS : va_S A s.heap s.heap [] := va_S.rf
  have hP : va_P (dC, dI) vwCl ([(a0, .inr (9, [.int m_t.1, .int m_t.2.1, .int m_t.2.2, .ref a6, g7, g8, g9, g10, g11, g12, g13, g14, g15, g16, g17, g18, g19, g20, g21, g22, g23, g24, g25, g26, g27, g28, g29, g30, g31, g32]))]) s.heap := hP
  have hl := lv_entry ([.ref a0, .int k1, .int k2, .int k3, .int k4]) (n := 5) (Nat.le_of_ble_eq_true rfl)
  rw [lg_entry_eq]
  generalize (lg_sl ([.ref a0, .int k1, .int k2, .int k3, .int k4]) ++ List.replicate (5 - (lg_sl ([.ref a0, .int k1, .int k2, .int k3, .int k4])).length) Slot.unset).toArray = ls at hl ⊢
  have hl : lv_has ls 5 [(0, .ref a0), (1, .int k1), (2, .int k2), (3, .int k3), (4, .int k4)] := hl
  refine W_q (fun QQ hQQ => ?_)
  rw [f_X12_lines] at h
  refine lv_aload_n hx hb (zat zrX12_lines_0_ok 0 rfl) rfl (lv_at hl 0 rfl) ?_
  refine lv_iconst (v := 0) hx hb (zat zrX12_lines_0_ok 1 rfl) (by decide) ?_
  refine va_put (D := (dC, dI)) (ci := 9) (v := .int 0) (ty := .int) (C := RX12) (T := TX12) (N := 30) hx hb hts ifX12_lines_X12 tyX12 tyX12_ok nmX12 hown hK hP hD hS 0 rfl rfl 0 (by decide) (hts (.fieldLink RX12 36 "HookPierModel" "thrown" "I") (List.mem_of_getElem? (i := 1) rfl)) (fun _ h9 => h9) rfl (by decide +kernel) rfl rfl (Nat.le_of_ble_eq_true rfl) (zat zrX12_lines_0_ok 2 rfl) (fun H locs hP hD hS => ?_)
  obtain ⟨hP, hD⟩ := pd_mk ([(a0, .inr (9, [.int 0, .int m_t.2.1, .int m_t.2.2, .ref a6, g7, g8, g9, g10, g11, g12, g13, g14, g15, g16, g17, g18, g19, g20, g21, g22, g23, g24, g25, g26, g27, g28, g29, g30, g31, g32]))]) hP hD
  refine lv_aload_n hx hb (zat zrX12_lines_0_ok 3 rfl) rfl (lv_at hl 0 rfl) ?_
  refine va_get (D := (dC, dI)) (ci := 9) (v := .ref a6) (C := RX12) (T := TX12) (N := 30) hx hb hts ifX12_lines_X12 hown hK hP 0 rfl rfl 3 (by decide) (hts (.fieldLink RX12 299 "HookPierModel" "pier" "LHookPierModel$Pier;") (List.mem_of_getElem? (i := 2) rfl)) (fun _ h9 => h9) rfl (zat zrX12_lines_0_ok 4 rfl) ?_
  refine lv_ifnonnull (tgt := 18) hx hb (zat zrX12_lines_0_ok 5 rfl) (by decide) ?_
  refine lv_iload_n hx hb (zat zrX12_lines_0_ok 7 rfl) rfl (lv_at hl 1 rfl) ?_
  refine lv_iconst (v := 0) hx hb (zat zrX12_lines_0_ok 8 rfl) (by decide) ?_
  refine lv_bipush (v := 99) hx hb (zat zrX12_lines_0_ok 9 rfl) (by decide) ?_
  obtain ⟨o22, eo22⟩ : ∃ o, o = f_X12_in k1 (0 : Int32) (99 : Int32) := ⟨_, rfl⟩
  have h := nm_of h o22 eo22
  refine ck_i (wc := []) (wr := ([(a0, .inr (9, [.int 0, .int m_t.2.1, .int m_t.2.2, .ref a6, g7, g8, g9, g10, g11, g12, g13, g14, g15, g16, g17, g18, g19, g20, g21, g22, g23, g24, g25, g26, g27, g28, g29, g30, g31, g32]))])) hP hD hK hS hA [] [0] rfl rfl (by decide) (by decide) (by decide) (fun hPc hDc => (va_runS (As := [.int k1, .int 0, .int 99]) (rest := []) ⟨hx, hb, hml, hown, hts⟩ (kfX12_in l dC dI k1 (0 : Int32) (99 : Int32) H.size o22 eo22.symm) (va_cwS 3 hts gfX12_lines_0 rfl rfl rfl (by decide +kernel) ⟨(Nat.le_of_ble_eq_true rfl), (Nat.le_of_ble_eq_true rfl)⟩) (PS hPc (hK.sub (tys' := ([])) [] rfl) hDc hN) rfl rfl hl.1 rfl (lv_room (Nat.le_of_ble_eq_true rfl)) (zat zrX12_lines_0_ok 10 rfl) ⟨(Nat.le_of_ble_eq_true rfl), (Nat.le_of_ble_eq_true rfl)⟩)) (fun r22 _ H locs hw hP hD _ hS => ?_)
  obtain ⟨hw, br22⟩ := hw
  obtain rfl := hw.symm
  obtain ⟨hP, hD⟩ := pd_mk ([(a0, .inr (9, [.int 0, .int m_t.2.1, .int m_t.2.2, .ref a6, g7, g8, g9, g10, g11, g12, g13, g14, g15, g16, g17, g18, g19, g20, g21, g22, g23, g24, g25, g26, g27, g28, g29, g30, g31, g32]))]) hP hD
  have J48 : ∀ (H : Heap) (locs : List Loc) (ls : Array Slot), f_X12_lines_J48 m_t = some out → va_P (dC, dI) vwCl ([(a0, .inr (9, [.int 0, .int m_t.2.1, .int m_t.2.2, .ref a6, g7, g8, g9, g10, g11, g12, g13, g14, g15, g16, g17, g18, g19, g20, g21, g22, g23, g24, g25, g26, g27, g28, g29, g30, g31, g32]))]) H → va_D A ([(a0, .inr (9, [.int 0, .int m_t.2.1, .int m_t.2.2, .ref a6, g7, g8, g9, g10, g11, g12, g13, g14, g15, g16, g17, g18, g19, g20, g21, g22, g23, g24, g25, g26, g27, g28, g29, g30, g31, g32]))]) → va_S A s.heap H locs → lv_has ls 5 [(0, .ref a0)] → W p l e (headSpec vfX12_lines { frames := 2, cells := 0, slots := 0, locals := 42 }).room s m ([.ref a0, .int k1, .int k2, .int k3, .int k4]).toArray below meth c H locs 0 0 QQ (F0 m 48 ls []) := by
    intro  H locs ls h  hP hD hS hl
    rw [f_X12_lines_J48] at h
    refine lv_aload_n hx hb (zat zrX12_lines_0_ok 22 rfl) rfl (lv_at hl 0 rfl) ?_
    refine lv_iconst (v := 2) hx hb (zat zrX12_lines_0_ok 23 rfl) (by decide) ?_
    obtain ⟨o50, eo50⟩ : ∃ o, o = f_X12_lost (2 : Int32) ((0 : Int32), m_t.2) := ⟨_, rfl⟩
    have h := nm_of h o50 eo50
    refine ck_i (wc := ([(a0, .inr (9, [.int 0, .int m_t.2.1, .int m_t.2.2, .ref a6, g7, g8, g9, g10, g11, g12, g13, g14, g15, g16, g17, g18, g19, g20, g21, g22, g23, g24, g25, g26, g27, g28, g29, g30, g31, g32]))])) (wr := []) hP hD hK hS hA [0] [] rfl rfl (by decide) (by decide) (by decide) (fun hPc hDc => (va_runV (As := [.int 2]) (rest := []) ⟨hx, hb, hml, hown, hts⟩ (kfX12_lost l dC dI a0 (2 : Int32) ((0 : Int32), m_t.2) (.ref a6) (g7) (g8) (g9) (g10) (g11) (g12) (g13) (g14) (g15) (g16) (g17) (g18) (g19) (g20) (g21) (g22) (g23) (g24) (g25) (g26) (g27) (g28) (g29) (g30) (g31) (g32) H.size o50 eo50.symm) (cwV 1 hts gfX12_lines_1 rfl rfl rfl (by decide +kernel) ⟨(Nat.le_of_ble_eq_true rfl), (Nat.le_of_ble_eq_true rfl)⟩) (PV hPc (hK.sub (tys' := ([])) [] rfl) hDc hN 0 rfl rfl) rfl rfl hl.1 rfl (lv_room (Nat.le_of_ble_eq_true rfl)) (zat zrX12_lines_0_ok 24 rfl) ⟨(Nat.le_of_ble_eq_true rfl), (Nat.le_of_ble_eq_true rfl)⟩)) (fun r50 _ H locs hw hP hD _ hS => ?_)
    obtain rfl := hw
    obtain ⟨hP, hD⟩ := pd_mk ([(a0, .inr (9, [.int o50.1, .int o50.2.1, .int o50.2.2, .ref a6, g7, g8, g9, g10, g11, g12, g13, g14, g15, g16, g17, g18, g19, g20, g21, g22, g23, g24, g25, g26, g27, g28, g29, g30, g31, g32]))]) hP hD
    obtain rfl := Option.some.inj h
    obtain ⟨hP9, hD9⟩ := pd_sub ([(a0, .inr (9, [.int o50.1, .int o50.2.1, .int o50.2.2, .ref a6, g7, g8, g9, g10, g11, g12, g13, g14, g15, g16, g17, g18, g19, g20, g21, g22, g23, g24, g25, g26, g27, g28, g29, g30, g31, g32]))]) [0] hP hD (by decide) rfl
    have hK9 := hK.sub (tys' := []) [] rfl
    rw [hQQ]
    exact W.iret (v := (-100 : Int32)) hx hb hr (fun t ht hW => ⟨⟨(-100 : Int32), (), rfl, rfl, by rw [ht]; exact hP9, va_K.moved hW.alike hK9, hD9⟩, hS.F ht⟩) hS.2.2 (zat zrX12_lines_0_ok 25 rfl)
  refine lv_if_eq (tgt := 48) hx hb (zat zrX12_lines_0_ok 11 rfl) (by decide) (fun c25 => ?_) (fun c25 => ?_)
  · have h := (if_pos c25).symm.trans h
    exact J48  H _ ls h  hP hD hS (lv_sub hl [0] rfl)
  · have h := (if_neg c25).symm.trans h
    refine lv_iload_n hx hb (zat zrX12_lines_0_ok 12 rfl) rfl (lv_at hl 2 rfl) ?_
    refine lv_iconst (v := 0) hx hb (zat zrX12_lines_0_ok 13 rfl) (by decide) ?_
    refine lv_bipush (v := 6) hx hb (zat zrX12_lines_0_ok 14 rfl) (by decide) ?_
    obtain ⟨o32, eo32⟩ : ∃ o, o = f_X12_in k2 (0 : Int32) (6 : Int32) := ⟨_, rfl⟩
    have h := nm_of h o32 eo32
    refine ck_i (wc := []) (wr := ([(a0, .inr (9, [.int 0, .int m_t.2.1, .int m_t.2.2, .ref a6, g7, g8, g9, g10, g11, g12, g13, g14, g15, g16, g17, g18, g19, g20, g21, g22, g23, g24, g25, g26, g27, g28, g29, g30, g31, g32]))])) hP hD hK hS hA [] [0] rfl rfl (by decide) (by decide) (by decide) (fun hPc hDc => (va_runS (As := [.int k2, .int 0, .int 6]) (rest := []) ⟨hx, hb, hml, hown, hts⟩ (kfX12_in l dC dI k2 (0 : Int32) (6 : Int32) H.size o32 eo32.symm) (va_cwS 3 hts gfX12_lines_0 rfl rfl rfl (by decide +kernel) ⟨(Nat.le_of_ble_eq_true rfl), (Nat.le_of_ble_eq_true rfl)⟩) (PS hPc (hK.sub (tys' := ([])) [] rfl) hDc hN) rfl rfl hl.1 rfl (lv_room (Nat.le_of_ble_eq_true rfl)) (zat zrX12_lines_0_ok 15 rfl) ⟨(Nat.le_of_ble_eq_true rfl), (Nat.le_of_ble_eq_true rfl)⟩)) (fun r32 _ H locs hw hP hD _ hS => ?_)
    obtain ⟨hw, br32⟩ := hw
    obtain rfl := hw.symm
    obtain ⟨hP, hD⟩ := pd_mk ([(a0, .inr (9, [.int 0, .int m_t.2.1, .int m_t.2.2, .ref a6, g7, g8, g9, g10, g11, g12, g13, g14, g15, g16, g17, g18, g19, g20, g21, g22, g23, g24, g25, g26, g27, g28, g29, g30, g31, g32]))]) hP hD
    refine lv_if_eq (tgt := 48) hx hb (zat zrX12_lines_0_ok 16 rfl) (by decide) (fun c35 => ?_) (fun c35 => ?_)
    · have h := (if_pos c35).symm.trans h
      exact J48  H _ ls h  hP hD hS (lv_sub hl [0] rfl)
    · have h := (if_neg c35).symm.trans h
      refine lv_iload_n hx hb (zat zrX12_lines_0_ok 17 rfl) rfl (lv_at hl 3 rfl) ?_
      refine lv_iconst (v := 0) hx hb (zat zrX12_lines_0_ok 18 rfl) (by decide) ?_
      refine lv_bipush (v := 6) hx hb (zat zrX12_lines_0_ok 19 rfl) (by decide) ?_
      obtain ⟨o42, eo42⟩ : ∃ o, o = f_X12_in k3 (0 : Int32) (6 : Int32) := ⟨_, rfl⟩
      have h := nm_of h o42 eo42
      refine ck_i (wc := []) (wr := ([(a0, .inr (9, [.int 0, .int m_t.2.1, .int m_t.2.2, .ref a6, g7, g8, g9, g10, g11, g12, g13, g14, g15, g16, g17, g18, g19, g20, g21, g22, g23, g24, g25, g26, g27, g28, g29, g30, g31, g32]))])) hP hD hK hS hA [] [0] rfl rfl (by decide) (by decide) (by decide) (fun hPc hDc => (va_runS (As := [.int k3, .int 0, .int 6]) (rest := []) ⟨hx, hb, hml, hown, hts⟩ (kfX12_in l dC dI k3 (0 : Int32) (6 : Int32) H.size o42 eo42.symm) (va_cwS 3 hts gfX12_lines_0 rfl rfl rfl (by decide +kernel) ⟨(Nat.le_of_ble_eq_true rfl), (Nat.le_of_ble_eq_true rfl)⟩) (PS hPc (hK.sub (tys' := ([])) [] rfl) hDc hN) rfl rfl hl.1 rfl (lv_room (Nat.le_of_ble_eq_true rfl)) (zat zrX12_lines_0_ok 20 rfl) ⟨(Nat.le_of_ble_eq_true rfl), (Nat.le_of_ble_eq_true rfl)⟩)) (fun r42 _ H locs hw hP hD _ hS => ?_)
      obtain ⟨hw, br42⟩ := hw
      obtain rfl := hw.symm
      obtain ⟨hP, hD⟩ := pd_mk ([(a0, .inr (9, [.int 0, .int m_t.2.1, .int m_t.2.2, .ref a6, g7, g8, g9, g10, g11, g12, g13, g14, g15, g16, g17, g18, g19, g20, g21, g22, g23, g24, g25, g26, g27, g28, g29, g30, g31, g32]))]) hP hD
      refine lv_if_ne (tgt := 54) hx hb (zat zrX12_lines_0_ok 21 rfl) (by decide) (fun c45 => ?_) (fun c45 => ?_)
      · have h := (if_neg c45).symm.trans h
        refine lv_aload_n hx hb (zat zrX12_lines_0_ok 26 rfl) rfl (lv_at hl 0 rfl) ?_
        refine lv_iload hx hb (zat zrX12_lines_0_ok 27 rfl) (lv_at hl 4 rfl) ?_
        have J75 : ∀ (v75_t1 : Int32) (H : Heap) (locs : List Loc) (ls : Array Slot), f_X12_lines_J75 m_t v75_t1 = some out → va_P (dC, dI) vwCl ([(a0, .inr (9, [.int 0, .int m_t.2.1, .int m_t.2.2, .ref a6, g7, g8, g9, g10, g11, g12, g13, g14, g15, g16, g17, g18, g19, g20, g21, g22, g23, g24, g25, g26, g27, g28, g29, g30, g31, g32]))]) H → va_D A ([(a0, .inr (9, [.int 0, .int m_t.2.1, .int m_t.2.2, .ref a6, g7, g8, g9, g10, g11, g12, g13, g14, g15, g16, g17, g18, g19, g20, g21, g22, g23, g24, g25, g26, g27, g28, g29, g30, g31, g32]))]) → va_S A s.heap H locs → lv_has ls 5 [] → W p l e (headSpec vfX12_lines { frames := 2, cells := 0, slots := 0, locals := 42 }).room s m ([.ref a0, .int k1, .int k2, .int k3, .int k4]).toArray below meth c H locs 0 0 QQ (F0 m 75 ls [.int v75_t1, .ref a0]) := by
          intro v75_t1 H locs ls h  hP hD hS hl
          rw [f_X12_lines_J75] at h
          obtain ⟨o75, eo75⟩ : ∃ o, o = f_X12_good v75_t1 ((0 : Int32), m_t.2) := ⟨_, rfl⟩
          have h := nm_of h o75 eo75
          refine ck_i (wc := ([(a0, .inr (9, [.int 0, .int m_t.2.1, .int m_t.2.2, .ref a6, g7, g8, g9, g10, g11, g12, g13, g14, g15, g16, g17, g18, g19, g20, g21, g22, g23, g24, g25, g26, g27, g28, g29, g30, g31, g32]))])) (wr := []) hP hD hK hS hA [0] [] rfl rfl (by decide) (by decide) (by decide) (fun hPc hDc => (va_runV (As := [.int v75_t1]) (rest := []) ⟨hx, hb, hml, hown, hts⟩ (kfX12_good l dC dI a0 v75_t1 ((0 : Int32), m_t.2) (.ref a6) (g7) (g8) (g9) (g10) (g11) (g12) (g13) (g14) (g15) (g16) (g17) (g18) (g19) (g20) (g21) (g22) (g23) (g24) (g25) (g26) (g27) (g28) (g29) (g30) (g31) (g32) H.size o75 eo75.symm) (cwV 1 hts gfX12_lines_2 rfl rfl rfl (by decide +kernel) ⟨(Nat.le_of_ble_eq_true rfl), (Nat.le_of_ble_eq_true rfl)⟩) (PV hPc (hK.sub (tys' := ([])) [] rfl) hDc hN 0 rfl rfl) rfl rfl hl.1 rfl (lv_room (Nat.le_of_ble_eq_true rfl)) (zat zrX12_lines_0_ok 38 rfl) ⟨(Nat.le_of_ble_eq_true rfl), (Nat.le_of_ble_eq_true rfl)⟩)) (fun r75 _ H locs hw hP hD _ hS => ?_)
          obtain rfl := hw
          obtain ⟨hP, hD⟩ := pd_mk ([(a0, .inr (9, [.int o75.2.1, .int o75.2.2.1, .int o75.2.2.2, .ref a6, g7, g8, g9, g10, g11, g12, g13, g14, g15, g16, g17, g18, g19, g20, g21, g22, g23, g24, g25, g26, g27, g28, g29, g30, g31, g32]))]) hP hD
          obtain rfl := Option.some.inj h
          obtain ⟨hP9, hD9⟩ := pd_sub ([(a0, .inr (9, [.int o75.2.1, .int o75.2.2.1, .int o75.2.2.2, .ref a6, g7, g8, g9, g10, g11, g12, g13, g14, g15, g16, g17, g18, g19, g20, g21, g22, g23, g24, g25, g26, g27, g28, g29, g30, g31, g32]))]) [0] hP hD (by decide) rfl
          have hK9 := hK.sub (tys' := []) [] rfl
          rw [hQQ]
          exact W.iret (v := o75.1) hx hb hr (fun t ht hW => ⟨⟨o75.1, (), rfl, rfl, by rw [ht]; exact hP9, va_K.moved hW.alike hK9, hD9⟩, hS.F ht⟩) hS.2.2 (zat zrX12_lines_0_ok 39 rfl)
        refine lv_if_eq (tgt := 69) hx hb (zat zrX12_lines_0_ok 28 rfl) (by decide) (fun c57 => ?_) (fun c57 => ?_)
        · have h := (if_pos c57).symm.trans h
          refine lv_iload_n hx hb (zat zrX12_lines_0_ok 34 rfl) rfl (lv_at hl 1 rfl) ?_
          refine lv_iload_n hx hb (zat zrX12_lines_0_ok 35 rfl) rfl (lv_at hl 2 rfl) ?_
          refine lv_iload_n hx hb (zat zrX12_lines_0_ok 36 rfl) rfl (lv_at hl 3 rfl) ?_
          obtain ⟨o72, eo72, h⟩ := bd_of h
          refine ck_i (wc := []) (wr := ([(a0, .inr (9, [.int 0, .int m_t.2.1, .int m_t.2.2, .ref a6, g7, g8, g9, g10, g11, g12, g13, g14, g15, g16, g17, g18, g19, g20, g21, g22, g23, g24, g25, g26, g27, g28, g29, g30, g31, g32]))])) hP hD hK hS hA [] [0] rfl rfl (by decide) (by decide) (by decide) (fun hPc hDc => (va_runS (As := [.int k1, .int k2, .int k3]) (rest := [.ref a0]) ⟨hx, hb, hml, hown, hts⟩ (kfX12_gets l dC dI k1 k2 k3 H.size o72 eo72) (va_cwS 3 hts gfX12_lines_3 rfl rfl rfl (by decide +kernel) ⟨(Nat.le_of_ble_eq_true rfl), (Nat.le_of_ble_eq_true rfl)⟩) (PS hPc (hK.sub (tys' := ([])) [] rfl) hDc hN) rfl rfl hl.1 rfl (lv_room (Nat.le_of_ble_eq_true rfl)) (zat zrX12_lines_0_ok 37 rfl) ⟨(Nat.le_of_ble_eq_true rfl), (Nat.le_of_ble_eq_true rfl)⟩)) (fun r72 _ H locs hw hP hD _ hS => ?_)
          obtain rfl := hw.symm
          obtain ⟨hP, hD⟩ := pd_mk ([(a0, .inr (9, [.int 0, .int m_t.2.1, .int m_t.2.2, .ref a6, g7, g8, g9, g10, g11, g12, g13, g14, g15, g16, g17, g18, g19, g20, g21, g22, g23, g24, g25, g26, g27, g28, g29, g30, g31, g32]))]) hP hD
          exact J75 o72 H _ ls h  hP hD hS (lv_sub hl [] rfl)
        · have h := (if_neg c57).symm.trans h
          refine lv_iload_n hx hb (zat zrX12_lines_0_ok 29 rfl) rfl (lv_at hl 1 rfl) ?_
          refine lv_iload_n hx hb (zat zrX12_lines_0_ok 30 rfl) rfl (lv_at hl 3 rfl) ?_
          refine lv_iload_n hx hb (zat zrX12_lines_0_ok 31 rfl) rfl (lv_at hl 2 rfl) ?_
          obtain ⟨o63, eo63, h⟩ := bd_of h
          refine ck_i (wc := []) (wr := ([(a0, .inr (9, [.int 0, .int m_t.2.1, .int m_t.2.2, .ref a6, g7, g8, g9, g10, g11, g12, g13, g14, g15, g16, g17, g18, g19, g20, g21, g22, g23, g24, g25, g26, g27, g28, g29, g30, g31, g32]))])) hP hD hK hS hA [] [0] rfl rfl (by decide) (by decide) (by decide) (fun hPc hDc => (va_runS (As := [.int k1, .int k3, .int k2]) (rest := [.ref a0]) ⟨hx, hb, hml, hown, hts⟩ (kfX12_gets l dC dI k1 k3 k2 H.size o63 eo63) (va_cwS 3 hts gfX12_lines_3 rfl rfl rfl (by decide +kernel) ⟨(Nat.le_of_ble_eq_true rfl), (Nat.le_of_ble_eq_true rfl)⟩) (PS hPc (hK.sub (tys' := ([])) [] rfl) hDc hN) rfl rfl hl.1 rfl (lv_room (Nat.le_of_ble_eq_true rfl)) (zat zrX12_lines_0_ok 32 rfl) ⟨(Nat.le_of_ble_eq_true rfl), (Nat.le_of_ble_eq_true rfl)⟩)) (fun r63 _ H locs hw hP hD _ hS => ?_)
          obtain rfl := hw.symm
          obtain ⟨hP, hD⟩ := pd_mk ([(a0, .inr (9, [.int 0, .int m_t.2.1, .int m_t.2.2, .ref a6, g7, g8, g9, g10, g11, g12, g13, g14, g15, g16, g17, g18, g19, g20, g21, g22, g23, g24, g25, g26, g27, g28, g29, g30, g31, g32]))]) hP hD
          refine lv_goto (tgt := 75) hx hb (zat zrX12_lines_0_ok 33 rfl) (by decide) ?_
          exact J75 o63 H _ ls h  hP hD hS (lv_sub hl [] rfl)
      · have h := (if_pos c45).symm.trans h
        exact J48  H _ ls h  hP hD hS (lv_sub hl [0] rfl)
noncomputable def zrX12_refusesStock_0 : List ZR := zc 0 true (.aload_n 0) 1 (zc 1 true (.getfield 299) 3 (zc 4 true (.ifnonnull 7) 3 (zc 7 false (.nop) 4 (zc 11 true (.iload_n 1) 1 (zc 12 true (.iconst 0) 1 (zc 13 true (.bipush 99) 2 (zc 15 true (.invokestatic 115) 3 (zc 18 true (.ifCond .eq 7) 3 (zc 21 true (.iconst 0) 1 (zc 22 true (.goto 4) 3 (zc 25 true (.iconst 2) 1 (zc 26 true (.ireturn) 1 ([])))))))))))))
theorem zrX12_refusesStock_0_ok : zck 0 ((zby cX12_refusesStock).drop 0) zrX12_refusesStock_0 = true := by decide +kernel
def vfX12_refusesStock : List Cond := List.cons (.code yX12_refusesStock cX12_refusesStock 2 (some .int)) (apW [.fieldLink RX12 299 "HookPierModel" "pier" "LHookPierModel$Pier;", .methodLink RX12 115 yX12_in, .static yX12_in, .initialized RX12] (apW wsX120 (vfX12_in)))
theorem ifX12_refusesStock_X12 : ∀ w ∈ wsX120, w ∈ vfX12_refusesStock := fun _ h => (List.mem_cons_of_mem _ (List.mem_append_right _ (List.mem_append_left _ h)))
theorem qfX12_refusesStock : Good vfX12_refusesStock := gd_cons (by decide +kernel) (gd_app (gd_dec (by decide +kernel) : Good [.fieldLink RX12 299 "HookPierModel" "pier" "LHookPierModel$Pier;", .methodLink RX12 115 yX12_in, .static yX12_in, .initialized RX12]) (gd_app qsX12 qfX12_in))
theorem gfX12_refusesStock_0 : GoodIn vfX12_refusesStock (va_wsS RX12 115 yX12_in vfX12_in) := goodIn_app (goodIn_r [.methodLink RX12 115 yX12_in, .static yX12_in, .initialized RX12] [2, 3, 4] rfl (by decide +kernel)) (goodIn_m (fun _ h => (List.mem_cons_of_mem _ (List.mem_append_right _ (List.mem_append_right _ h)))) qfX12_in)
set_option maxHeartbeats 2000000 in
set_option maxRecDepth 100000 in
theorem kfX12_refusesStock (l : Launch) (dC : Nat → ClassId) (dI : Nat → Nat → Nat) (a0 : Nat) (k1 : Int32) (g2 : Value) (g3 : Value) (g4 : Value) (a5 : Nat) (g6 : Value) (g7 : Value) (g8 : Value) (g9 : Value) (g10 : Value) (g11 : Value) (g12 : Value) (g13 : Value) (g14 : Value) (g15 : Value) (g16 : Value) (g17 : Value) (g18 : Value) (g19 : Value) (g20 : Value) (g21 : Value) (g22 : Value) (g23 : Value) (g24 : Value) (g25 : Value) (g26 : Value) (g27 : Value) (g28 : Value) (g29 : Value) (g30 : Value) (g31 : Value) (sz : Nat) (out : Int32) (h : f_X12_refusesStock k1 = out) : KDi l yX12_refusesStock vfX12_refusesStock ({ frames := 1, cells := 0, slots := 0, locals := 22 }) (dC, dI) [.ref a0, .int k1] sz ([(a0, .inr (9, [g2, g3, g4, .ref a5, g6, g7, g8, g9, g10, g11, g12, g13, g14, g15, g16, g17, g18, g19, g20, g21, g22, g23, g24, g25, g26, g27, g28, g29, g30, g31]))]) ([]) (fun (r : Int32) _ => r = out) 0 0 := by
  refine Met.ofW (cc := cX12_refusesStock) (maxL := 2) (ret := (some .int)) (by decide) rfl ?_
  intro p e s m args below meth c s₁ B0 hml hv
  obtain ⟨rfl, hsz, hP, hK, hD0, hN⟩ := hv
  have hx := B0.exec
  have hb := B0.bytes
  have hr := B0.returns
  have hts := atoms_spec (ws := vfX12_refusesStock) B0.pre
  have hown : s.vm.findClass RX12 = some m.cls := findClass_of_methodNamed B0.named
  have hlocks := B0.notSynchronized
  subst hsz
  have hD := hD0.self (sz := s.heap.size)
  generalize hAe : va_A ([(a0, .inr (9, [g2, g3, g4, .ref a5, g6, g7, g8, g9, g10, g11, g12, g13, g14, g15, g16, g17, g18, g19, g20, g21, g22, g23, g24, g25, g26, g27, g28, g29, g30, g31]))]) s.heap.size = A at hD ⊢
  have hA : ∀ q : Nat, s.heap.size ≤ q → A q := fun q h => by rw [← hAe]; exact Or.inr h
  have hS : va_S A s.heap s.heap [] := va_S.rf
  have hP : va_P (dC, dI) vwCl ([(a0, .inr (9, [g2, g3, g4, .ref a5, g6, g7, g8, g9, g10, g11, g12, g13, g14, g15, g16, g17, g18, g19, g20, g21, g22, g23, g24, g25, g26, g27, g28, g29, g30, g31]))]) s.heap := hP
  have hl := lv_entry ([.ref a0, .int k1]) (n := 2) (Nat.le_of_ble_eq_true rfl)
  rw [lg_entry_eq]
  generalize (lg_sl ([.ref a0, .int k1]) ++ List.replicate (2 - (lg_sl ([.ref a0, .int k1])).length) Slot.unset).toArray = ls at hl ⊢
  have hl : lv_has ls 2 [(0, .ref a0), (1, .int k1)] := hl
  refine W_q (fun QQ hQQ => ?_)
  rw [f_X12_refusesStock] at h
  refine lv_aload_n hx hb (zat zrX12_refusesStock_0_ok 0 rfl) rfl (lv_at hl 0 rfl) ?_
  refine va_get (D := (dC, dI)) (ci := 9) (v := .ref a5) (C := RX12) (T := TX12) (N := 30) hx hb hts ifX12_refusesStock_X12 hown hK hP 0 rfl rfl 3 (by decide) (hts (.fieldLink RX12 299 "HookPierModel" "pier" "LHookPierModel$Pier;") (List.mem_of_getElem? (i := 1) rfl)) (fun _ h9 => h9) rfl (zat zrX12_refusesStock_0_ok 1 rfl) ?_
  refine lv_ifnonnull (tgt := 11) hx hb (zat zrX12_refusesStock_0_ok 2 rfl) (by decide) ?_
  refine lv_iload_n hx hb (zat zrX12_refusesStock_0_ok 4 rfl) rfl (lv_at hl 1 rfl) ?_
  refine lv_iconst (v := 0) hx hb (zat zrX12_refusesStock_0_ok 5 rfl) (by decide) ?_
  refine lv_bipush (v := 99) hx hb (zat zrX12_refusesStock_0_ok 6 rfl) (by decide) ?_
  obtain ⟨o15, eo15⟩ : ∃ o, o = f_X12_in k1 (0 : Int32) (99 : Int32) := ⟨_, rfl⟩
  have h := nm_of h o15 eo15
  refine ck_i (wc := []) (wr := ([(a0, .inr (9, [g2, g3, g4, .ref a5, g6, g7, g8, g9, g10, g11, g12, g13, g14, g15, g16, g17, g18, g19, g20, g21, g22, g23, g24, g25, g26, g27, g28, g29, g30, g31]))])) hP hD hK hS hA [] [0] rfl rfl (by decide) (by decide) (by decide) (fun hPc hDc => (va_runS (As := [.int k1, .int 0, .int 99]) (rest := []) ⟨hx, hb, hml, hown, hts⟩ (kfX12_in l dC dI k1 (0 : Int32) (99 : Int32) s.heap.size o15 eo15.symm) (va_cwS 3 hts gfX12_refusesStock_0 rfl rfl rfl (by decide +kernel) ⟨(Nat.le_of_ble_eq_true rfl), (Nat.le_of_ble_eq_true rfl)⟩) (PS hPc (hK.sub (tys' := ([])) [] rfl) hDc hN) rfl rfl hl.1 rfl (lv_room (Nat.le_of_ble_eq_true rfl)) (zat zrX12_refusesStock_0_ok 7 rfl) ⟨(Nat.le_of_ble_eq_true rfl), (Nat.le_of_ble_eq_true rfl)⟩)) (fun r15 _ H locs hw hP hD _ hS => ?_)
  obtain ⟨hw, br15⟩ := hw
  obtain rfl := hw.symm
  obtain ⟨hP, hD⟩ := pd_mk ([(a0, .inr (9, [g2, g3, g4, .ref a5, g6, g7, g8, g9, g10, g11, g12, g13, g14, g15, g16, g17, g18, g19, g20, g21, g22, g23, g24, g25, g26, g27, g28, g29, g30, g31]))]) hP hD
  refine lv_if_eq (tgt := 25) hx hb (zat zrX12_refusesStock_0_ok 8 rfl) (by decide) (fun c18 => ?_) (fun c18 => ?_)
  · have h := (if_pos c18).symm.trans h
    refine lv_iconst (v := 2) hx hb (zat zrX12_refusesStock_0_ok 11 rfl) (by decide) ?_
    obtain rfl := h
    obtain ⟨hP9, hD9⟩ := pd_sub ([(a0, .inr (9, [g2, g3, g4, .ref a5, g6, g7, g8, g9, g10, g11, g12, g13, g14, g15, g16, g17, g18, g19, g20, g21, g22, g23, g24, g25, g26, g27, g28, g29, g30, g31]))]) [0] hP hD (by decide) rfl
    have hK9 := hK.sub (tys' := []) [] rfl
    rw [hQQ]
    exact W.iret (v := (2 : Int32)) hx hb hr (fun t ht hW => ⟨⟨(2 : Int32), (), rfl, rfl, by rw [ht]; exact hP9, va_K.moved hW.alike hK9, hD9⟩, hS.F ht⟩) hS.2.2 (zat zrX12_refusesStock_0_ok 12 rfl)
  · have h := (if_neg c18).symm.trans h
    refine lv_iconst (v := 0) hx hb (zat zrX12_refusesStock_0_ok 9 rfl) (by decide) ?_
    refine lv_goto (tgt := 26) hx hb (zat zrX12_refusesStock_0_ok 10 rfl) (by decide) ?_
    obtain rfl := h
    obtain ⟨hP9, hD9⟩ := pd_sub ([(a0, .inr (9, [g2, g3, g4, .ref a5, g6, g7, g8, g9, g10, g11, g12, g13, g14, g15, g16, g17, g18, g19, g20, g21, g22, g23, g24, g25, g26, g27, g28, g29, g30, g31]))]) [0] hP hD (by decide) rfl
    have hK9 := hK.sub (tys' := []) [] rfl
    rw [hQQ]
    exact W.iret (v := (0 : Int32)) hx hb hr (fun t ht hW => ⟨⟨(0 : Int32), (), rfl, rfl, by rw [ht]; exact hP9, va_K.moved hW.alike hK9, hD9⟩, hS.F ht⟩) hS.2.2 (zat zrX12_refusesStock_0_ok 12 rfl)
noncomputable def zrX12_isRest_0 : List ZR := zc 0 true (.iconst 0) 1 (zc 1 true (.istore_n 3) 1 (zc 2 true (.iload_n 3) 1 (zc 3 true (.bipush 7) 2 (zc 5 true (.if_icmp .ge 41) 3 (zc 8 true (.iload_n 0) 1 (zc 9 true (.iload_n 3) 1 (zc 10 true (.iload_n 2) 1 (zc 11 true (.invokestatic 454) 3 (zc 14 true (.iload_n 0) 1 (zc 15 true (.iload_n 1) 1 (zc 16 true (.iload_n 2) 1 (zc 17 true (.invokestatic 454) 3 (zc 20 true (.if_icmp .gt 18) 3 (zc 23 true (.iload_n 0) 1 (zc 24 true (.iload_n 3) 1 (zc 25 true (.iload_n 1) 1 (zc 26 true (.invokestatic 454) 3 (zc 29 true (.iload_n 0) 1 (zc 30 true (.iload_n 2) 1 (zc 31 true (.iload_n 1) 1 (zc 32 true (.invokestatic 454) 3 (zc 35 true (.if_icmp .le 5) 3 (zc 38 true (.iconst 0) 1 (zc 39 true (.ireturn) 1 (zc 40 true (.iinc 3 1) 3 (zc 43 true (.goto (-41)) 3 (zc 46 true (.iconst 1) 1 (zc 47 true (.ireturn) 1 ([])))))))))))))))))))))))))))))
theorem zrX12_isRest_0_ok : zck 0 ((zby cX12_isRest).drop 0) zrX12_isRest_0 = true := by decide +kernel
def vfX12_isRest : List Cond := List.cons (.code yX12_isRest cX12_isRest 4 (some .boolean)) (apW [.methodLink RX12 454 yX12_gets, .static yX12_gets, .initialized RX12] (vfX12_gets))
theorem qfX12_isRest : Good vfX12_isRest := gd_cons (by decide +kernel) (gd_app (gd_dec (by decide +kernel) : Good [.methodLink RX12 454 yX12_gets, .static yX12_gets, .initialized RX12]) qfX12_gets)
theorem gfX12_isRest_0 : GoodIn vfX12_isRest (va_wsS RX12 454 yX12_gets vfX12_gets) := goodIn_app (goodIn_r [.methodLink RX12 454 yX12_gets, .static yX12_gets, .initialized RX12] [1, 2, 3] rfl (by decide +kernel)) (goodIn_m (fun _ h => (List.mem_cons_of_mem _ (List.mem_append_right _ h))) qfX12_gets)
set_option maxHeartbeats 2000000 in
set_option maxRecDepth 100000 in
theorem kfX12_isRest (l : Launch) (dC : Nat → ClassId) (dI : Nat → Nat → Nat) (k0 : Int32) (k1 : Int32) (k2 : Int32) (sz : Nat) (out : Int32) (h : f_X12_isRest k0 k1 k2 = some out) : KDi l yX12_isRest vfX12_isRest ({ frames := 1, cells := 0, slots := 0, locals := 22 }) (dC, dI) [.int k0, .int k1, .int k2] sz [] ([]) (fun (r : Int32) _ => r = out ∧ (0 ≤ r.toInt ∧ r.toInt ≤ 1)) 0 0 := by
  refine Met.ofW (cc := cX12_isRest) (maxL := 4) (ret := (some .boolean)) (by decide) rfl ?_
  intro p e s m args below meth c s₁ B0 hml hv
  obtain ⟨rfl, hsz, hP, hK, hD0, hN⟩ := hv
  have hx := B0.exec
  have hb := B0.bytes
  have hr := B0.returns
  have hts := atoms_spec (ws := vfX12_isRest) B0.pre
  have hown : s.vm.findClass RX12 = some m.cls := findClass_of_methodNamed B0.named
  have hlocks := B0.notSynchronized
  subst hsz
  have hD := hD0.self (sz := s.heap.size)
  generalize hAe : va_A [] s.heap.size = A at hD ⊢
  have hA : ∀ q : Nat, s.heap.size ≤ q → A q := fun q h => by rw [← hAe]; exact Or.inr h
  have hS : va_S A s.heap s.heap [] := va_S.rf
  have hP : va_P (dC, dI) vwCl [] s.heap := hP
  have hl := lv_entry ([.int k0, .int k1, .int k2]) (n := 4) (Nat.le_of_ble_eq_true rfl)
  rw [lg_entry_eq]
  generalize (lg_sl ([.int k0, .int k1, .int k2]) ++ List.replicate (4 - (lg_sl ([.int k0, .int k1, .int k2])).length) Slot.unset).toArray = ls at hl ⊢
  have hl : lv_has ls 4 [(0, .int k0), (1, .int k1), (2, .int k2)] := hl
  refine W_q (fun QQ hQQ => ?_)
  rw [f_X12_isRest] at h
  refine lv_iconst (v := 0) hx hb (zat zrX12_isRest_0_ok 0 rfl) (by decide) ?_
  refine lv_istore_n (lv' := [(3, .int 0), (0, .int k0), (1, .int k1), (2, .int k2)]) hx hb (zat zrX12_isRest_0_ok 1 rfl) rfl hl (by decide) rfl (fun ls hl => ?_)
  have L2 : ∀ (n2 : Nat) (v2_l3 : Int32) (H : Heap) (locs : List Loc) (ls : Array Slot), f_X12_isRest_L2 k0 k1 k2 n2 v2_l3 = some out → va_P (dC, dI) vwCl [] H → va_D A [] → va_S A s.heap H locs → lv_has ls 4 [(3, .int v2_l3), (0, .int k0), (1, .int k1), (2, .int k2)] → W p l e (headSpec vfX12_isRest { frames := 1, cells := 0, slots := 0, locals := 22 }).room s m ([.int k0, .int k1, .int k2]).toArray below meth c H locs 0 0 QQ (F0 m 2 ls []) := by
    intro n2
    induction n2 with
    | zero =>
      intro v2_l3 H locs ls h  _ _ _ _
      rw [f_X12_isRest_L2] at h
      cases h
    | succ n2 ih2 =>
      intro v2_l3 H locs ls h  hP hD hS hl
      rw [f_X12_isRest_L2] at h
      refine lv_iload_n hx hb (zat zrX12_isRest_0_ok 2 rfl) rfl (lv_at hl 0 rfl) ?_
      refine lv_bipush (v := 7) hx hb (zat zrX12_isRest_0_ok 3 rfl) (by decide) ?_
      refine lv_icmp_ge (tgt := 46) hx hb (zat zrX12_isRest_0_ok 4 rfl) (by decide) (fun c5 => ?_) (fun c5 => ?_)
      · have h := (if_pos c5).symm.trans h
        refine lv_iconst (v := 1) hx hb (zat zrX12_isRest_0_ok 27 rfl) (by decide) ?_
        obtain rfl := Option.some.inj h
        obtain ⟨hP9, hD9⟩ := pd_sub [] [] hP hD (by decide) rfl
        have hK9 := hK.sub (tys' := []) [] rfl
        rw [hQQ]
        exact W.zret (v := (1 : Int32)) hx hb hr rfl (fun t ht hW => ⟨⟨(1 : Int32), (), rfl, ⟨rfl, (by decide)⟩, by rw [ht]; exact hP9, va_K.moved hW.alike hK9, hD9⟩, hS.F ht⟩) hS.2.2 (zat zrX12_isRest_0_ok 28 rfl)
      · have h := (if_neg c5).symm.trans h
        refine lv_iload_n hx hb (zat zrX12_isRest_0_ok 5 rfl) rfl (lv_at hl 1 rfl) ?_
        refine lv_iload_n hx hb (zat zrX12_isRest_0_ok 6 rfl) rfl (lv_at hl 0 rfl) ?_
        refine lv_iload_n hx hb (zat zrX12_isRest_0_ok 7 rfl) rfl (lv_at hl 3 rfl) ?_
        obtain ⟨o11, eo11, h⟩ := bd_of h
        refine ck_i (wc := []) (wr := []) hP hD hK hS hA [] [] rfl rfl (by decide) (by decide) (by decide) (fun hPc hDc => (va_runS (As := [.int k0, .int v2_l3, .int k2]) (rest := []) ⟨hx, hb, hml, hown, hts⟩ (kfX12_gets l dC dI k0 v2_l3 k2 H.size o11 eo11) (va_cwS 3 hts gfX12_isRest_0 rfl rfl rfl (by decide +kernel) ⟨(Nat.le_of_ble_eq_true rfl), (Nat.le_of_ble_eq_true rfl)⟩) (PS hPc (hK.sub (tys' := ([])) [] rfl) hDc hN) rfl rfl hl.1 rfl (lv_room (Nat.le_of_ble_eq_true rfl)) (zat zrX12_isRest_0_ok 8 rfl) ⟨(Nat.le_of_ble_eq_true rfl), (Nat.le_of_ble_eq_true rfl)⟩)) (fun r11 _ H locs hw hP hD _ hS => ?_)
        obtain rfl := hw.symm
        obtain ⟨hP, hD⟩ := pd_mk [] hP hD
        refine lv_iload_n hx hb (zat zrX12_isRest_0_ok 9 rfl) rfl (lv_at hl 1 rfl) ?_
        refine lv_iload_n hx hb (zat zrX12_isRest_0_ok 10 rfl) rfl (lv_at hl 2 rfl) ?_
        refine lv_iload_n hx hb (zat zrX12_isRest_0_ok 11 rfl) rfl (lv_at hl 3 rfl) ?_
        obtain ⟨o17, eo17, h⟩ := bd_of h
        refine ck_i (wc := []) (wr := []) hP hD hK hS hA [] [] rfl rfl (by decide) (by decide) (by decide) (fun hPc hDc => (va_runS (As := [.int k0, .int k1, .int k2]) (rest := [.int o11]) ⟨hx, hb, hml, hown, hts⟩ (kfX12_gets l dC dI k0 k1 k2 H.size o17 eo17) (va_cwS 3 hts gfX12_isRest_0 rfl rfl rfl (by decide +kernel) ⟨(Nat.le_of_ble_eq_true rfl), (Nat.le_of_ble_eq_true rfl)⟩) (PS hPc (hK.sub (tys' := ([])) [] rfl) hDc hN) rfl rfl hl.1 rfl (lv_room (Nat.le_of_ble_eq_true rfl)) (zat zrX12_isRest_0_ok 12 rfl) ⟨(Nat.le_of_ble_eq_true rfl), (Nat.le_of_ble_eq_true rfl)⟩)) (fun r17 _ H locs hw hP hD _ hS => ?_)
        obtain rfl := hw.symm
        obtain ⟨hP, hD⟩ := pd_mk [] hP hD
        refine lv_icmp_gt (tgt := 38) hx hb (zat zrX12_isRest_0_ok 13 rfl) (by decide) (fun c20 => ?_) (fun c20 => ?_)
        · have h := (if_pos c20).symm.trans h
          refine lv_iconst (v := 0) hx hb (zat zrX12_isRest_0_ok 23 rfl) (by decide) ?_
          obtain rfl := Option.some.inj h
          obtain ⟨hP9, hD9⟩ := pd_sub [] [] hP hD (by decide) rfl
          have hK9 := hK.sub (tys' := []) [] rfl
          rw [hQQ]
          exact W.zret (v := (0 : Int32)) hx hb hr rfl (fun t ht hW => ⟨⟨(0 : Int32), (), rfl, ⟨rfl, (by decide)⟩, by rw [ht]; exact hP9, va_K.moved hW.alike hK9, hD9⟩, hS.F ht⟩) hS.2.2 (zat zrX12_isRest_0_ok 24 rfl)
        · have h := (if_neg c20).symm.trans h
          refine lv_iload_n hx hb (zat zrX12_isRest_0_ok 14 rfl) rfl (lv_at hl 1 rfl) ?_
          refine lv_iload_n hx hb (zat zrX12_isRest_0_ok 15 rfl) rfl (lv_at hl 0 rfl) ?_
          refine lv_iload_n hx hb (zat zrX12_isRest_0_ok 16 rfl) rfl (lv_at hl 2 rfl) ?_
          obtain ⟨o26, eo26, h⟩ := bd_of h
          refine ck_i (wc := []) (wr := []) hP hD hK hS hA [] [] rfl rfl (by decide) (by decide) (by decide) (fun hPc hDc => (va_runS (As := [.int k0, .int v2_l3, .int k1]) (rest := []) ⟨hx, hb, hml, hown, hts⟩ (kfX12_gets l dC dI k0 v2_l3 k1 H.size o26 eo26) (va_cwS 3 hts gfX12_isRest_0 rfl rfl rfl (by decide +kernel) ⟨(Nat.le_of_ble_eq_true rfl), (Nat.le_of_ble_eq_true rfl)⟩) (PS hPc (hK.sub (tys' := ([])) [] rfl) hDc hN) rfl rfl hl.1 rfl (lv_room (Nat.le_of_ble_eq_true rfl)) (zat zrX12_isRest_0_ok 17 rfl) ⟨(Nat.le_of_ble_eq_true rfl), (Nat.le_of_ble_eq_true rfl)⟩)) (fun r26 _ H locs hw hP hD _ hS => ?_)
          obtain rfl := hw.symm
          obtain ⟨hP, hD⟩ := pd_mk [] hP hD
          refine lv_iload_n hx hb (zat zrX12_isRest_0_ok 18 rfl) rfl (lv_at hl 1 rfl) ?_
          refine lv_iload_n hx hb (zat zrX12_isRest_0_ok 19 rfl) rfl (lv_at hl 3 rfl) ?_
          refine lv_iload_n hx hb (zat zrX12_isRest_0_ok 20 rfl) rfl (lv_at hl 2 rfl) ?_
          obtain ⟨o32, eo32, h⟩ := bd_of h
          refine ck_i (wc := []) (wr := []) hP hD hK hS hA [] [] rfl rfl (by decide) (by decide) (by decide) (fun hPc hDc => (va_runS (As := [.int k0, .int k2, .int k1]) (rest := [.int o26]) ⟨hx, hb, hml, hown, hts⟩ (kfX12_gets l dC dI k0 k2 k1 H.size o32 eo32) (va_cwS 3 hts gfX12_isRest_0 rfl rfl rfl (by decide +kernel) ⟨(Nat.le_of_ble_eq_true rfl), (Nat.le_of_ble_eq_true rfl)⟩) (PS hPc (hK.sub (tys' := ([])) [] rfl) hDc hN) rfl rfl hl.1 rfl (lv_room (Nat.le_of_ble_eq_true rfl)) (zat zrX12_isRest_0_ok 21 rfl) ⟨(Nat.le_of_ble_eq_true rfl), (Nat.le_of_ble_eq_true rfl)⟩)) (fun r32 _ H locs hw hP hD _ hS => ?_)
          obtain rfl := hw.symm
          obtain ⟨hP, hD⟩ := pd_mk [] hP hD
          refine lv_icmp_le (tgt := 40) hx hb (zat zrX12_isRest_0_ok 22 rfl) (by decide) (fun c35 => ?_) (fun c35 => ?_)
          · have h := (if_pos c35).symm.trans h
            refine lv_iinc (v := (v2_l3 + (1 : Int32))) (lv' := [(3, .int (v2_l3 + (1 : Int32))), (0, .int k0), (1, .int k1), (2, .int k2)]) hx hb (zat zrX12_isRest_0_ok 25 rfl) hl (k := 0) rfl rfl (by decide) rfl (fun ls hl => ?_)
            refine lv_goto (tgt := 2) hx hb (zat zrX12_isRest_0_ok 26 rfl) (by decide) ?_
            exact ih2 (v2_l3 + (1 : Int32)) H _ ls h  hP hD hS (lv_sub hl [0, 1, 2, 3] rfl)
          · have h := (if_neg c35).symm.trans h
            refine lv_iconst (v := 0) hx hb (zat zrX12_isRest_0_ok 23 rfl) (by decide) ?_
            obtain rfl := Option.some.inj h
            obtain ⟨hP9, hD9⟩ := pd_sub [] [] hP hD (by decide) rfl
            have hK9 := hK.sub (tys' := []) [] rfl
            rw [hQQ]
            exact W.zret (v := (0 : Int32)) hx hb hr rfl (fun t ht hW => ⟨⟨(0 : Int32), (), rfl, ⟨rfl, (by decide)⟩, by rw [ht]; exact hP9, va_K.moved hW.alike hK9, hD9⟩, hS.F ht⟩) hS.2.2 (zat zrX12_isRest_0_ok 24 rfl)
  exact L2 FU (0 : Int32) s.heap _ ls h  hP hD hS (lv_sub hl [0, 1, 2, 3] rfl)
