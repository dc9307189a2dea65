noncomputable def zrX12_sell_0 : List ZR := zc 0 true (.aload_n 0) 1 (zc 1 true (.iconst 0) 1 (zc 2 true (.putfield 36) 3 (zc 5 true (.aload_n 0) 1 (zc 6 true (.iload_n 1) 1 (zc 7 true (.invokevirtual 320) 3 (zc 10 true (.ifCond .ne 9) 3 (zc 13 true (.aload_n 0) 1 (zc 14 true (.iconst 1) 1 (zc 15 true (.invokevirtual 42) 3 (zc 18 true (.ireturn) 1 (zc 19 true (.aload_n 0) 1 (zc 20 true (.getfield 17) 3 (zc 23 true (.iconst 0) 1 (zc 24 true (.iload_n 1) 1 (zc 25 true (.iadd) 1 (zc 26 true (.iaload) 1 (zc 27 true (.iconst 1) 1 (zc 28 true (.if_icmp .eq 9) 3 (zc 31 true (.aload_n 0) 1 (zc 32 true (.iconst 5) 1 (zc 33 true (.invokevirtual 42) 3 (zc 36 true (.ireturn) 1 (zc 37 true (.aload_n 0) 1 (zc 38 true (.invokevirtual 501) 3 (zc 41 true (.aload_n 0) 1 (zc 42 true (.getfield 17) 3 (zc 45 true (.iconst 0) 1 (zc 46 true (.iload_n 1) 1 (zc 47 true (.iadd) 1 (zc 48 true (.iconst 2) 1 (zc 49 true (.iastore) 1 (zc 50 true (.aload_n 0) 1 (zc 51 true (.getfield 17) 3 (zc 54 true (.bipush 25) 2 (zc 56 true (.dup2) 1 (zc 57 true (.iaload) 1 (zc 58 true (.aload_n 0) 1 (zc 59 true (.iload_n 1) 1 (zc 60 true (.invokevirtual 442) 3 (zc 63 true (.iadd) 1 (zc 64 true (.iastore) 1 (zc 65 true (.aload_n 0) 1 (zc 66 true (.aload_n 0) 1 (zc 67 true (.iload_n 1) 1 (zc 68 true (.invokevirtual 442) 3 (zc 71 true (.invokevirtual 46) 3 (zc 74 true (.ireturn) 1 ([]))))))))))))))))))))))))))))))))))))))))))))))))
theorem zrX12_sell_0_ok : zck 0 ((zby cX12_sell).drop 0) zrX12_sell_0 = true := by decide +kernel
def vfX12_sell : List Cond := List.cons (.code yX12_sell cX12_sell 2 (some .int)) (apW [.fieldLink RX12 36 "HookPierModel" "thrown" "I", .methodLink RX12 320 yX12_isAnswer, .instanceMethod yX12_isAnswer, .selects RX12 yX12_isAnswer yX12_isAnswer, .initialized RX12, .fieldLink RX12 17 "HookPierModel" "v" "[I", .methodLink RX12 501 yX12_remembers, .instanceMethod yX12_remembers, .selects RX12 yX12_remembers yX12_remembers, .methodLink RX12 442 yX12_worthNow, .instanceMethod yX12_worthNow, .selects RX12 yX12_worthNow yX12_worthNow, .methodLink RX12 46 yX12_good, .instanceMethod yX12_good, .selects RX12 yX12_good yX12_good, .methodLink RX12 42 yX12_refused, .instanceMethod yX12_refused, .selects RX12 yX12_refused yX12_refused] (apW wsX120 (apW vfX12_isAnswer (apW vfX12_remembers (apW vfX12_worthNow (apW vfX12_good (vfX12_refused)))))))
theorem ifX12_sell_X12 : ∀ w ∈ wsX120, w ∈ vfX12_sell := fun _ h => (List.mem_cons_of_mem _ (List.mem_append_right _ (List.mem_append_left _ h)))
theorem qfX12_sell : Good vfX12_sell := gd_cons (by decide +kernel) (gd_app (gd_dec (by decide +kernel) : Good [.fieldLink RX12 36 "HookPierModel" "thrown" "I", .methodLink RX12 320 yX12_isAnswer, .instanceMethod yX12_isAnswer, .selects RX12 yX12_isAnswer yX12_isAnswer, .initialized RX12, .fieldLink RX12 17 "HookPierModel" "v" "[I", .methodLink RX12 501 yX12_remembers, .instanceMethod yX12_remembers, .selects RX12 yX12_remembers yX12_remembers, .methodLink RX12 442 yX12_worthNow, .instanceMethod yX12_worthNow, .selects RX12 yX12_worthNow yX12_worthNow, .methodLink RX12 46 yX12_good, .instanceMethod yX12_good, .selects RX12 yX12_good yX12_good, .methodLink RX12 42 yX12_refused, .instanceMethod yX12_refused, .selects RX12 yX12_refused yX12_refused]) (gd_app qsX12 (gd_app qfX12_isAnswer (gd_app qfX12_remembers (gd_app qfX12_worthNow (gd_app qfX12_good qfX12_refused))))))
theorem gfX12_sell_0 : GoodIn vfX12_sell (wsV RX12 320 RX12 yX12_isAnswer vfX12_isAnswer) := goodIn_app (goodIn_r [.methodLink RX12 320 yX12_isAnswer, .instanceMethod yX12_isAnswer, .selects RX12 yX12_isAnswer yX12_isAnswer, .initialized RX12] [2, 3, 4, 5] rfl (by decide +kernel)) (goodIn_m (fun _ h => (List.mem_cons_of_mem _ (List.mem_append_right _ (List.mem_append_right _ (List.mem_append_left _ h))))) qfX12_isAnswer)
theorem gfX12_sell_1 : GoodIn vfX12_sell (wsV RX12 501 RX12 yX12_remembers vfX12_remembers) := goodIn_app (goodIn_r [.methodLink RX12 501 yX12_remembers, .instanceMethod yX12_remembers, .selects RX12 yX12_remembers yX12_remembers, .initialized RX12] [7, 8, 9, 5] rfl (by decide +kernel)) (goodIn_m (fun _ h => (List.mem_cons_of_mem _ (List.mem_append_right _ (List.mem_append_right _ (List.mem_append_right _ (List.mem_append_left _ h)))))) qfX12_remembers)
theorem gfX12_sell_2 : GoodIn vfX12_sell (wsV RX12 442 RX12 yX12_worthNow vfX12_worthNow) := goodIn_app (goodIn_r [.methodLink RX12 442 yX12_worthNow, .instanceMethod yX12_worthNow, .selects RX12 yX12_worthNow yX12_worthNow, .initialized RX12] [10, 11, 12, 5] rfl (by decide +kernel)) (goodIn_m (fun _ h => (List.mem_cons_of_mem _ (List.mem_append_right _ (List.mem_append_right _ (List.mem_append_right _ (List.mem_append_right _ (List.mem_append_left _ h))))))) qfX12_worthNow)
theorem gfX12_sell_3 : GoodIn vfX12_sell (wsV RX12 46 RX12 yX12_good vfX12_good) := goodIn_app (goodIn_r [.methodLink RX12 46 yX12_good, .instanceMethod yX12_good, .selects RX12 yX12_good yX12_good, .initialized RX12] [13, 14, 15, 5] rfl (by decide +kernel)) (goodIn_m (fun _ h => (List.mem_cons_of_mem _ (List.mem_append_right _ (List.mem_append_right _ (List.mem_append_right _ (List.mem_append_right _ (List.mem_append_right _ (List.mem_append_left _ h)))))))) qfX12_good)
theorem gfX12_sell_4 : GoodIn vfX12_sell (wsV RX12 42 RX12 yX12_refused vfX12_refused) := goodIn_app (goodIn_r [.methodLink RX12 42 yX12_refused, .instanceMethod yX12_refused, .selects RX12 yX12_refused yX12_refused, .initialized RX12] [16, 17, 18, 5] rfl (by decide +kernel)) (goodIn_m (fun _ h => (List.mem_cons_of_mem _ (List.mem_append_right _ (List.mem_append_right _ (List.mem_append_right _ (List.mem_append_right _ (List.mem_append_right _ (List.mem_append_right _ h)))))))) qfX12_refused)
set_option maxHeartbeats 2000000 in
set_option maxRecDepth 100000 in
theorem kfX12_sell (l : Launch) (dC : Nat → ClassId) (dI : Nat → Nat → Nat) (a0 : Nat) (k1 : Int32) (a2 : Nat) (a3 : Nat) (a4 : Nat) (a5 : Nat) (uq : Nat → Nat) (kq : Nat → ClassId) (m_t : TX12_t) (m_v : TX12_v) (m_h : TX12_h) (g11 : Value) (g12 : Value) (g13 : Value) (g14 : Value) (g15 : Value) (g16 : Value) (g17 : Value) (g18 : Value) (g19 : Value) (g20 : Value) (g21 : Value) (g22 : Value) (g23 : Value) (g24 : Value) (g25 : Value) (g26 : Value) (g27 : Value) (g28 : Value) (g29 : Value) (g30 : Value) (g31 : Value) (q_q : TX11_q) (cB33 : ClassId) (cB34 : ClassId) (cB35 : ClassId) (sz : Nat) (out : (Int32 × TX12_t × TX12_v × TX12_h)) (h : f_X12_sell k1 m_t m_v m_h q_q = some out) : KCi l yX12_sell vfX12_sell ({ frames := 2, cells := 0, slots := 0, locals := 45 }) (dC, dI) [.ref a0, .int k1] sz ((a0, .inr (9, [.int m_t.1, .int m_t.2.1, .int m_t.2.2, .ref a2, g11, g12, g13, g14, g15, g16, g17, g18, g19, g20, g21, .ref a3, g22, .ref a4, .ref a5, .int m_h.2.2.1, .int m_h.2.2.2, g23, g24, g25, g26, g27, g28, g29, g30, g31])) :: bX11 a2 uq kq q_q ([(a3, .inl (cB33, 26, .inl m_v)), (a4, .inl (cB34, 416, .inl m_h.1)), (a5, .inl (cB35, 78, .inl m_h.2.1))])) (tX11 kq ((cB33, .int) :: (cB34, .int) :: (cB35, .int) :: [])) (fun (r : Int32) _ => r = out.1) ((a0, .inr (9, [.int out.2.1.1, .int out.2.1.2.1, .int out.2.1.2.2, .ref a2, g11, g12, g13, g14, g15, g16, g17, g18, g19, g20, g21, .ref a3, g22, .ref a4, .ref a5, .int out.2.2.2.2.2.1, .int out.2.2.2.2.2.2, g23, g24, g25, g26, g27, g28, g29, g30, g31])) :: bX11 a2 uq kq q_q ([(a3, .inl (cB33, 26, .inl out.2.2.1)), (a4, .inl (cB34, 416, .inl out.2.2.2.1)), (a5, .inl (cB35, 78, .inl out.2.2.2.2.1))])) 0 0 := by
  refine Met.ofW (cc := cX12_sell) (maxL := 2) (ret := (some .int)) (by decide) rfl ?_
  intro p e s m args below meth c s₁ B0 hml hv
  obtain ⟨rfl, hsz, hP, hK, hD0, hN⟩ := hv
  have hx := B0.exec
  have hb := B0.bytes
  have hr := B0.returns
  have hts := atoms_spec (ws := vfX12_sell) B0.pre
  have hown : s.vm.findClass RX12 = some m.cls := findClass_of_methodNamed B0.named
  have hlocks := B0.notSynchronized
  subst hsz
  have hD := hD0.self (sz := s.heap.size)
  generalize hAe : va_A ((a0, .inr (9, [.int m_t.1, .int m_t.2.1, .int m_t.2.2, .ref a2, g11, g12, g13, g14, g15, g16, g17, g18, g19, g20, g21, .ref a3, g22, .ref a4, .ref a5, .int m_h.2.2.1, .int m_h.2.2.2, g23, g24, g25, g26, g27, g28, g29, g30, g31])) :: bX11 a2 uq kq q_q ([(a3, .inl (cB33, 26, .inl m_v)), (a4, .inl (cB34, 416, .inl m_h.1)), (a5, .inl (cB35, 78, .inl m_h.2.1))])) s.heap.size = A at hD ⊢
  have hA : ∀ q : Nat, s.heap.size ≤ q → A q := fun q h => by rw [← hAe]; exact Or.inr h
  have hS : va_S A s.heap s.heap [] := va_S.rf
  have hP : va_P (dC, dI) vwCl ((a0, .inr (9, [.int m_t.1, .int m_t.2.1, .int m_t.2.2, .ref a2, g11, g12, g13, g14, g15, g16, g17, g18, g19, g20, g21, .ref a3, g22, .ref a4, .ref a5, .int m_h.2.2.1, .int m_h.2.2.2, g23, g24, g25, g26, g27, g28, g29, g30, g31])) :: bX11 a2 uq kq q_q ([(a3, .inl (cB33, 26, .inl m_v)), (a4, .inl (cB34, 416, .inl m_h.1)), (a5, .inl (cB35, 78, .inl m_h.2.1))])) s.heap := hP
  have hl := lv_entry ([.ref a0, .int k1]) (n := 2) (Nat.le_of_ble_eq_true rfl)
  rw [lg_entry_eq]
  generalize (lg_sl ([.ref a0, .int k1]) ++ List.replicate (2 - (lg_sl ([.ref a0, .int k1])).length) Slot.unset).toArray = ls at hl ⊢
  have hl : lv_has ls 2 [(0, .ref a0), (1, .int k1)] := hl
  refine W_q (fun QQ hQQ => ?_)
  rw [f_X12_sell] at h
  refine lv_aload_n hx hb (zat zrX12_sell_0_ok 0 rfl) rfl (lv_at hl 0 rfl) ?_
  refine lv_iconst (v := 0) hx hb (zat zrX12_sell_0_ok 1 rfl) (by decide) ?_
  refine va_put (D := (dC, dI)) (ci := 9) (v := .int 0) (ty := .int) (C := RX12) (T := TX12) (N := 30) hx hb hts ifX12_sell_X12 tyX12 tyX12_ok nmX12 hown hK hP hD hS 0 rfl rfl 0 (by decide) (hts (.fieldLink RX12 36 "HookPierModel" "thrown" "I") (List.mem_of_getElem? (i := 1) rfl)) (fun _ h9 => h9) rfl (by decide +kernel) rfl rfl (Nat.le_of_ble_eq_true rfl) (zat zrX12_sell_0_ok 2 rfl) (fun H locs hP hD hS => ?_)
  obtain ⟨hP, hD⟩ := pd_mk ((a0, .inr (9, [.int 0, .int m_t.2.1, .int m_t.2.2, .ref a2, g11, g12, g13, g14, g15, g16, g17, g18, g19, g20, g21, .ref a3, g22, .ref a4, .ref a5, .int m_h.2.2.1, .int m_h.2.2.2, g23, g24, g25, g26, g27, g28, g29, g30, g31])) :: bX11 a2 uq kq q_q ([(a3, .inl (cB33, 26, .inl m_v)), (a4, .inl (cB34, 416, .inl m_h.1)), (a5, .inl (cB35, 78, .inl m_h.2.1))])) hP hD
  refine lv_aload_n hx hb (zat zrX12_sell_0_ok 3 rfl) rfl (lv_at hl 0 rfl) ?_
  refine lv_iload_n hx hb (zat zrX12_sell_0_ok 4 rfl) rfl (lv_at hl 1 rfl) ?_
  obtain ⟨o7, eo7⟩ : ∃ o, o = f_X12_isAnswer k1 q_q := ⟨_, rfl⟩
  have h := nm_of h o7 eo7
  refine ck_i (wc := ((a0, .inr (9, [.int 0, .int m_t.2.1, .int m_t.2.2, .ref a2, g11, g12, g13, g14, g15, g16, g17, g18, g19, g20, g21, .ref a3, g22, .ref a4, .ref a5, .int m_h.2.2.1, .int m_h.2.2.2, g23, g24, g25, g26, g27, g28, g29, g30, g31])) :: bX11 a2 uq kq q_q [])) (wr := ([(a3, .inl (cB33, 26, .inl m_v)), (a4, .inl (cB34, 416, .inl m_h.1)), (a5, .inl (cB35, 78, .inl m_h.2.1))])) hP hD hK hS hA [0, 1, 2, 3, 4, 5, 6, 7, 8, 9, 10, 11, 12, 13, 14, 15] [16, 17, 18] rfl rfl (by decide) (by decide) (by decide) (fun hPc hDc => (va_runV (As := [.int k1]) (rest := []) ⟨hx, hb, hml, hown, hts⟩ (kfX12_isAnswer l dC dI a0 k1 a2 uq kq (.int 0) (.int m_t.2.1) (.int m_t.2.2) (g11) (g12) (g13) (g14) (g15) (g16) (g17) (g18) (g19) (g20) (g21) (.ref a3) (g22) (.ref a4) (.ref a5) (.int m_h.2.2.1) (.int m_h.2.2.2) (g23) (g24) (g25) (g26) (g27) (g28) (g29) (g30) (g31) q_q H.size o7 eo7.symm) (cwV 1 hts gfX12_sell_0 rfl rfl rfl (by decide +kernel) ⟨(Nat.le_of_ble_eq_true rfl), (Nat.le_of_ble_eq_true rfl)⟩) (PV hPc (hK.sub (tys' := (tX11 kq ([]))) [0, 1, 2, 3, 4, 5, 6, 7, 8, 9, 10, 11, 12, 13] rfl) hDc hN 0 rfl rfl) rfl rfl hl.1 rfl (lv_room (Nat.le_of_ble_eq_true rfl)) (zat zrX12_sell_0_ok 5 rfl) ⟨(Nat.le_of_ble_eq_true rfl), (Nat.le_of_ble_eq_true rfl)⟩)) (fun r7 _ H locs hw hP hD _ hS => ?_)
  obtain ⟨hw, br7⟩ := hw
  obtain rfl := hw.symm
  obtain ⟨hP, hD⟩ := pd_mk ((a3, .inl (cB33, 26, .inl m_v)) :: (a4, .inl (cB34, 416, .inl m_h.1)) :: (a5, .inl (cB35, 78, .inl m_h.2.1)) :: (a0, .inr (9, [.int 0, .int m_t.2.1, .int m_t.2.2, .ref a2, g11, g12, g13, g14, g15, g16, g17, g18, g19, g20, g21, .ref a3, g22, .ref a4, .ref a5, .int m_h.2.2.1, .int m_h.2.2.2, g23, g24, g25, g26, g27, g28, g29, g30, g31])) :: bX11 a2 uq kq q_q []) hP hD
  refine lv_if_ne (tgt := 19) hx hb (zat zrX12_sell_0_ok 6 rfl) (by decide) (fun c10 => ?_) (fun c10 => ?_)
  · have h := (if_neg c10).symm.trans h
    refine lv_aload_n hx hb (zat zrX12_sell_0_ok 11 rfl) rfl (lv_at hl 0 rfl) ?_
    refine va_get (D := (dC, dI)) (ci := 9) (v := .ref a3) (C := RX12) (T := TX12) (N := 30) hx hb hts ifX12_sell_X12 hown hK hP 3 rfl rfl 15 (by decide) (hts (.fieldLink RX12 17 "HookPierModel" "v" "[I") (List.mem_of_getElem? (i := 6) rfl)) (fun _ h9 => h9) rfl (zat zrX12_sell_0_ok 12 rfl) ?_
    refine lv_iconst (v := 0) hx hb (zat zrX12_sell_0_ok 13 rfl) (by decide) ?_
    refine lv_iload_n hx hb (zat zrX12_sell_0_ok 14 rfl) rfl (lv_at hl 1 rfl) ?_
    refine lv_iadd hx hb (zat zrX12_sell_0_ok 15 rfl) ?_
    obtain ⟨hg26, h⟩ := gA_of h
    refine va_iald hx hb hK hP 0 14 rfl rfl hg26 (zat zrX12_sell_0_ok 16 rfl) ?_
    refine lv_iconst (v := 1) hx hb (zat zrX12_sell_0_ok 17 rfl) (by decide) ?_
    refine lv_icmp_eq (tgt := 37) hx hb (zat zrX12_sell_0_ok 18 rfl) (by decide) (fun c28 => ?_) (fun c28 => ?_)
    · have h := (if_pos c28).symm.trans h
      refine lv_aload_n hx hb (zat zrX12_sell_0_ok 23 rfl) rfl (lv_at hl 0 rfl) ?_
      obtain ⟨o38, eo38, h⟩ := bd_of h
      refine ck_v (wc := ([(a0, .inr (9, [.int 0, .int m_t.2.1, .int m_t.2.2, .ref a2, g11, g12, g13, g14, g15, g16, g17, g18, g19, g20, g21, .ref a3, g22, .ref a4, .ref a5, .int m_h.2.2.1, .int m_h.2.2.2, g23, g24, g25, g26, g27, g28, g29, g30, g31])), (a3, .inl (cB33, 26, .inl m_v)), (a4, .inl (cB34, 416, .inl m_h.1)), (a5, .inl (cB35, 78, .inl m_h.2.1))])) (wr := (bX11 a2 uq kq q_q [])) hP hD hK hS hA [3, 0, 1, 2] [4, 5, 6, 7, 8, 9, 10, 11, 12, 13, 14, 15, 16, 17, 18] rfl rfl (by decide) (by decide) (by decide) (fun hPc hDc => (va_runV (As := []) (rest := []) ⟨hx, hb, hml, hown, hts⟩ (kfX12_remembers l dC dI a0 a3 a4 a5 m_v m_h (.int 0) (.int m_t.2.1) (.int m_t.2.2) (.ref a2) (g11) (g12) (g13) (g14) (g15) (g16) (g17) (g18) (g19) (g20) (g21) (g22) (g23) (g24) (g25) (g26) (g27) (g28) (g29) (g30) (g31) cB33 cB34 cB35 H.size o38 eo38) (cwV 0 hts gfX12_sell_1 rfl rfl rfl (by decide +kernel) ⟨(Nat.le_of_ble_eq_true rfl), (Nat.le_of_ble_eq_true rfl)⟩) (PV hPc (hK.sub (tys' := ((cB33, .int) :: (cB34, .int) :: (cB35, .int) :: [])) [14, 15, 16] rfl) hDc hN 0 rfl rfl) rfl rfl hl.1 rfl (lv_room (Nat.le_of_ble_eq_true rfl)) (zat zrX12_sell_0_ok 24 rfl) ⟨(Nat.le_of_ble_eq_true rfl), (Nat.le_of_ble_eq_true rfl)⟩)) (fun _ H locs hw hP hD _ hS => ?_)
      obtain ⟨hP, hD⟩ := pd_mk (bX11 a2 uq kq q_q ([(a0, .inr (9, [.int 0, .int m_t.2.1, .int m_t.2.2, .ref a2, g11, g12, g13, g14, g15, g16, g17, g18, g19, g20, g21, .ref a3, g22, .ref a4, .ref a5, .int o38.2.2.1, .int o38.2.2.2, g23, g24, g25, g26, g27, g28, g29, g30, g31])), (a3, .inl (cB33, 26, .inl m_v)), (a4, .inl (cB34, 416, .inl o38.1)), (a5, .inl (cB35, 78, .inl o38.2.1))])) hP hD
      refine lv_aload_n hx hb (zat zrX12_sell_0_ok 25 rfl) rfl (lv_at hl 0 rfl) ?_
      refine va_get (D := (dC, dI)) (ci := 9) (v := .ref a3) (C := RX12) (T := TX12) (N := 30) hx hb hts ifX12_sell_X12 hown hK hP 15 rfl rfl 15 (by decide) (hts (.fieldLink RX12 17 "HookPierModel" "v" "[I") (List.mem_of_getElem? (i := 6) rfl)) (fun _ h9 => h9) rfl (zat zrX12_sell_0_ok 26 rfl) ?_
      refine lv_iconst (v := 0) hx hb (zat zrX12_sell_0_ok 27 rfl) (by decide) ?_
      refine lv_iload_n hx hb (zat zrX12_sell_0_ok 28 rfl) rfl (lv_at hl 1 rfl) ?_
      refine lv_iadd hx hb (zat zrX12_sell_0_ok 29 rfl) ?_
      refine lv_iconst (v := 2) hx hb (zat zrX12_sell_0_ok 30 rfl) (by decide) ?_
      obtain ⟨hg49, h⟩ := gA_of h
      refine va_iast hx hb hK hP hD hS 16 14 rfl rfl hg49 (zat zrX12_sell_0_ok 31 rfl) (fun H locs hP hD hS => ?_)
      obtain ⟨hP, hD⟩ := pd_mk (bX11 a2 uq kq q_q ([(a0, .inr (9, [.int 0, .int m_t.2.1, .int m_t.2.2, .ref a2, g11, g12, g13, g14, g15, g16, g17, g18, g19, g20, g21, .ref a3, g22, .ref a4, .ref a5, .int o38.2.2.1, .int o38.2.2.2, g23, g24, g25, g26, g27, g28, g29, g30, g31])), (a3, .inl (cB33, 26, .inl (upd m_v (((0 : Int32) + k1)).toNatClampNeg (2 : Int32)))), (a4, .inl (cB34, 416, .inl o38.1)), (a5, .inl (cB35, 78, .inl o38.2.1))])) hP hD
      refine lv_aload_n hx hb (zat zrX12_sell_0_ok 32 rfl) rfl (lv_at hl 0 rfl) ?_
      refine va_get (D := (dC, dI)) (ci := 9) (v := .ref a3) (C := RX12) (T := TX12) (N := 30) hx hb hts ifX12_sell_X12 hown hK hP 15 rfl rfl 15 (by decide) (hts (.fieldLink RX12 17 "HookPierModel" "v" "[I") (List.mem_of_getElem? (i := 6) rfl)) (fun _ h9 => h9) rfl (zat zrX12_sell_0_ok 33 rfl) ?_
      refine lv_bipush (v := 25) hx hb (zat zrX12_sell_0_ok 34 rfl) (by decide) ?_
      refine lv_dup2_11 hx hb (zat zrX12_sell_0_ok 35 rfl) rfl rfl ?_
      refine va_iald hx hb hK hP 16 14 rfl rfl (by unfold vp_in; decide) (zat zrX12_sell_0_ok 36 rfl) ?_
      refine lv_topi (fun z57 ez57 => ?_)
      have h := nm_of h z57 ez57
      refine lv_aload_n hx hb (zat zrX12_sell_0_ok 37 rfl) rfl (lv_at hl 0 rfl) ?_
      refine lv_iload_n hx hb (zat zrX12_sell_0_ok 38 rfl) rfl (lv_at hl 1 rfl) ?_
      obtain ⟨o60, eo60, h⟩ := bd_of h
      refine ck_i (wc := ((a0, .inr (9, [.int 0, .int m_t.2.1, .int m_t.2.2, .ref a2, g11, g12, g13, g14, g15, g16, g17, g18, g19, g20, g21, .ref a3, g22, .ref a4, .ref a5, .int o38.2.2.1, .int o38.2.2.2, g23, g24, g25, g26, g27, g28, g29, g30, g31])) :: bX11 a2 uq kq q_q ([(a3, .inl (cB33, 26, .inl (upd m_v (((0 : Int32) + k1)).toNatClampNeg (2 : Int32))))]))) (wr := ([(a4, .inl (cB34, 416, .inl o38.1)), (a5, .inl (cB35, 78, .inl o38.2.1))])) hP hD hK hS hA [15, 0, 1, 2, 3, 4, 5, 6, 7, 8, 9, 10, 11, 12, 13, 14, 16] [17, 18] rfl rfl (by decide) (by decide) (by decide) (fun hPc hDc => (va_runV (As := [.int k1]) (rest := [.int z57, .int 25, .ref a3]) ⟨hx, hb, hml, hown, hts⟩ (kfX12_worthNow l dC dI a0 k1 a2 a3 uq kq (upd m_v (((0 : Int32) + k1)).toNatClampNeg (2 : Int32)) (.int 0) (.int m_t.2.1) (.int m_t.2.2) (g11) (g12) (g13) (g14) (g15) (g16) (g17) (g18) (g19) (g20) (g21) (g22) (.ref a4) (.ref a5) (.int o38.2.2.1) (.int o38.2.2.2) (g23) (g24) (g25) (g26) (g27) (g28) (g29) (g30) (g31) q_q cB33 H.size o60 eo60) (cwV 1 hts gfX12_sell_2 rfl rfl rfl (by decide +kernel) ⟨(Nat.le_of_ble_eq_true rfl), (Nat.le_of_ble_eq_true rfl)⟩) (PV hPc (hK.sub (tys' := (tX11 kq ((cB33, .int) :: []))) [0, 1, 2, 3, 4, 5, 6, 7, 8, 9, 10, 11, 12, 13, 14] rfl) hDc hN 0 rfl rfl) rfl rfl hl.1 rfl (lv_room (Nat.le_of_ble_eq_true rfl)) (zat zrX12_sell_0_ok 39 rfl) ⟨(Nat.le_of_ble_eq_true rfl), (Nat.le_of_ble_eq_true rfl)⟩)) (fun r60 _ H locs hw hP hD _ hS => ?_)
      obtain rfl := hw.symm
      obtain ⟨hP, hD⟩ := pd_mk ((a4, .inl (cB34, 416, .inl o38.1)) :: (a5, .inl (cB35, 78, .inl o38.2.1)) :: (a0, .inr (9, [.int 0, .int m_t.2.1, .int m_t.2.2, .ref a2, g11, g12, g13, g14, g15, g16, g17, g18, g19, g20, g21, .ref a3, g22, .ref a4, .ref a5, .int o38.2.2.1, .int o38.2.2.2, g23, g24, g25, g26, g27, g28, g29, g30, g31])) :: bX11 a2 uq kq q_q ([(a3, .inl (cB33, 26, .inl (upd m_v (((0 : Int32) + k1)).toNatClampNeg (2 : Int32))))])) hP hD
      refine lv_iadd hx hb (zat zrX12_sell_0_ok 40 rfl) ?_
      refine va_iast hx hb hK hP hD hS 18 14 rfl rfl (by unfold vp_in; decide) (zat zrX12_sell_0_ok 41 rfl) (fun H locs hP hD hS => ?_)
      obtain ⟨hP, hD⟩ := pd_mk ((a4, .inl (cB34, 416, .inl o38.1)) :: (a5, .inl (cB35, 78, .inl o38.2.1)) :: (a0, .inr (9, [.int 0, .int m_t.2.1, .int m_t.2.2, .ref a2, g11, g12, g13, g14, g15, g16, g17, g18, g19, g20, g21, .ref a3, g22, .ref a4, .ref a5, .int o38.2.2.1, .int o38.2.2.2, g23, g24, g25, g26, g27, g28, g29, g30, g31])) :: bX11 a2 uq kq q_q ([(a3, .inl (cB33, 26, .inl (upd (upd m_v (((0 : Int32) + k1)).toNatClampNeg (2 : Int32)) ((25 : Int32)).toNatClampNeg (z57 + o60))))])) hP hD
      refine lv_aload_n hx hb (zat zrX12_sell_0_ok 42 rfl) rfl (lv_at hl 0 rfl) ?_
      refine lv_aload_n hx hb (zat zrX12_sell_0_ok 43 rfl) rfl (lv_at hl 0 rfl) ?_
      refine lv_iload_n hx hb (zat zrX12_sell_0_ok 44 rfl) rfl (lv_at hl 1 rfl) ?_
      obtain ⟨o68, eo68, h⟩ := bd_of h
      refine ck_i (wc := ((a0, .inr (9, [.int 0, .int m_t.2.1, .int m_t.2.2, .ref a2, g11, g12, g13, g14, g15, g16, g17, g18, g19, g20, g21, .ref a3, g22, .ref a4, .ref a5, .int o38.2.2.1, .int o38.2.2.2, g23, g24, g25, g26, g27, g28, g29, g30, g31])) :: bX11 a2 uq kq q_q ([(a3, .inl (cB33, 26, .inl (upd (upd m_v (((0 : Int32) + k1)).toNatClampNeg (2 : Int32)) ((25 : Int32)).toNatClampNeg (z57 + o60))))]))) (wr := ([(a4, .inl (cB34, 416, .inl o38.1)), (a5, .inl (cB35, 78, .inl o38.2.1))])) hP hD hK hS hA [2, 3, 4, 5, 6, 7, 8, 9, 10, 11, 12, 13, 14, 15, 16, 17, 18] [0, 1] rfl rfl (by decide) (by decide) (by decide) (fun hPc hDc => (va_runV (As := [.int k1]) (rest := [.ref a0]) ⟨hx, hb, hml, hown, hts⟩ (kfX12_worthNow l dC dI a0 k1 a2 a3 uq kq (upd (upd m_v (((0 : Int32) + k1)).toNatClampNeg (2 : Int32)) ((25 : Int32)).toNatClampNeg (z57 + o60)) (.int 0) (.int m_t.2.1) (.int m_t.2.2) (g11) (g12) (g13) (g14) (g15) (g16) (g17) (g18) (g19) (g20) (g21) (g22) (.ref a4) (.ref a5) (.int o38.2.2.1) (.int o38.2.2.2) (g23) (g24) (g25) (g26) (g27) (g28) (g29) (g30) (g31) q_q cB33 H.size o68 eo68) (cwV 1 hts gfX12_sell_2 rfl rfl rfl (by decide +kernel) ⟨(Nat.le_of_ble_eq_true rfl), (Nat.le_of_ble_eq_true rfl)⟩) (PV hPc (hK.sub (tys' := (tX11 kq ((cB33, .int) :: []))) [0, 1, 2, 3, 4, 5, 6, 7, 8, 9, 10, 11, 12, 13, 14] rfl) hDc hN 0 rfl rfl) rfl rfl hl.1 rfl (lv_room (Nat.le_of_ble_eq_true rfl)) (zat zrX12_sell_0_ok 45 rfl) ⟨(Nat.le_of_ble_eq_true rfl), (Nat.le_of_ble_eq_true rfl)⟩)) (fun r68 _ H locs hw hP hD _ hS => ?_)
      obtain rfl := hw.symm
      obtain ⟨hP, hD⟩ := pd_mk ((a4, .inl (cB34, 416, .inl o38.1)) :: (a5, .inl (cB35, 78, .inl o38.2.1)) :: (a0, .inr (9, [.int 0, .int m_t.2.1, .int m_t.2.2, .ref a2, g11, g12, g13, g14, g15, g16, g17, g18, g19, g20, g21, .ref a3, g22, .ref a4, .ref a5, .int o38.2.2.1, .int o38.2.2.2, g23, g24, g25, g26, g27, g28, g29, g30, g31])) :: bX11 a2 uq kq q_q ([(a3, .inl (cB33, 26, .inl (upd (upd m_v (((0 : Int32) + k1)).toNatClampNeg (2 : Int32)) ((25 : Int32)).toNatClampNeg (z57 + o60))))])) hP hD
      obtain ⟨o71, eo71⟩ : ∃ o, o = f_X12_good o68 ((0 : Int32), m_t.2) := ⟨_, rfl⟩
      have h := nm_of h o71 eo71
      refine ck_i (wc := ([(a0, .inr (9, [.int 0, .int m_t.2.1, .int m_t.2.2, .ref a2, g11, g12, g13, g14, g15, g16, g17, g18, g19, g20, g21, .ref a3, g22, .ref a4, .ref a5, .int o38.2.2.1, .int o38.2.2.2, g23, g24, g25, g26, g27, g28, g29, g30, g31]))])) (wr := ((a4, .inl (cB34, 416, .inl o38.1)) :: (a5, .inl (cB35, 78, .inl o38.2.1)) :: bX11 a2 uq kq q_q ([(a3, .inl (cB33, 26, .inl (upd (upd m_v (((0 : Int32) + k1)).toNatClampNeg (2 : Int32)) ((25 : Int32)).toNatClampNeg (z57 + o60))))]))) hP hD hK hS hA [2] [0, 1, 3, 4, 5, 6, 7, 8, 9, 10, 11, 12, 13, 14, 15, 16, 17, 18] rfl rfl (by decide) (by decide) (by decide) (fun hPc hDc => (va_runV (As := [.int o68]) (rest := []) ⟨hx, hb, hml, hown, hts⟩ (kfX12_good l dC dI a0 o68 ((0 : Int32), m_t.2) (.ref a2) (g11) (g12) (g13) (g14) (g15) (g16) (g17) (g18) (g19) (g20) (g21) (.ref a3) (g22) (.ref a4) (.ref a5) (.int o38.2.2.1) (.int o38.2.2.2) (g23) (g24) (g25) (g26) (g27) (g28) (g29) (g30) (g31) H.size o71 eo71.symm) (cwV 1 hts gfX12_sell_3 rfl rfl rfl (by decide +kernel) ⟨(Nat.le_of_ble_eq_true rfl), (Nat.le_of_ble_eq_true rfl)⟩) (PV hPc (hK.sub (tys' := ([])) [] rfl) hDc hN 0 rfl rfl) rfl rfl hl.1 rfl (lv_room (Nat.le_of_ble_eq_true rfl)) (zat zrX12_sell_0_ok 46 rfl) ⟨(Nat.le_of_ble_eq_true rfl), (Nat.le_of_ble_eq_true rfl)⟩)) (fun r71 _ H locs hw hP hD _ hS => ?_)
      obtain rfl := hw
      obtain ⟨hP, hD⟩ := pd_mk ((a4, .inl (cB34, 416, .inl o38.1)) :: (a5, .inl (cB35, 78, .inl o38.2.1)) :: bX11 a2 uq kq q_q ([(a3, .inl (cB33, 26, .inl (upd (upd m_v (((0 : Int32) + k1)).toNatClampNeg (2 : Int32)) ((25 : Int32)).toNatClampNeg (z57 + o60)))), (a0, .inr (9, [.int o71.2.1, .int o71.2.2.1, .int o71.2.2.2, .ref a2, g11, g12, g13, g14, g15, g16, g17, g18, g19, g20, g21, .ref a3, g22, .ref a4, .ref a5, .int o38.2.2.1, .int o38.2.2.2, g23, g24, g25, g26, g27, g28, g29, g30, g31]))])) hP hD
      obtain rfl := Option.some.inj h
      obtain ⟨hP9, hD9⟩ := pd_sub ((a0, .inr (9, [.int o71.2.1, .int o71.2.2.1, .int o71.2.2.2, .ref a2, g11, g12, g13, g14, g15, g16, g17, g18, g19, g20, g21, .ref a3, g22, .ref a4, .ref a5, .int o38.2.2.1, .int o38.2.2.2, g23, g24, g25, g26, g27, g28, g29, g30, g31])) :: bX11 a2 uq kq q_q ([(a3, .inl (cB33, 26, .inl (upd (upd m_v (((0 : Int32) + k1)).toNatClampNeg (2 : Int32)) ((25 : Int32)).toNatClampNeg (z57 + o60)))), (a4, .inl (cB34, 416, .inl o38.1)), (a5, .inl (cB35, 78, .inl o38.2.1))])) [18, 2, 3, 4, 5, 6, 7, 8, 9, 10, 11, 12, 13, 14, 15, 16, 17, 0, 1] hP hD (by decide) rfl
      have hK9 := hK.sub (tys' := []) [] rfl
      rw [hQQ]
      exact W.iret (v := o71.1) hx hb hr (fun t ht hW => ⟨⟨o71.1, (), rfl, rfl, by rw [ht]; exact hP9, va_K.moved hW.alike hK9, hD9⟩, hS.F ht⟩) hS.2.2 (zat zrX12_sell_0_ok 47 rfl)
    · have h := (if_neg c28).symm.trans h
      refine lv_aload_n hx hb (zat zrX12_sell_0_ok 19 rfl) rfl (lv_at hl 0 rfl) ?_
      refine lv_iconst (v := 5) hx hb (zat zrX12_sell_0_ok 20 rfl) (by decide) ?_
      obtain ⟨o33, eo33⟩ : ∃ o, o = f_X12_refused (5 : Int32) ((0 : Int32), m_t.2) := ⟨_, rfl⟩
      have h := nm_of h o33 eo33
      refine ck_i (wc := ([(a0, .inr (9, [.int 0, .int m_t.2.1, .int m_t.2.2, .ref a2, g11, g12, g13, g14, g15, g16, g17, g18, g19, g20, g21, .ref a3, g22, .ref a4, .ref a5, .int m_h.2.2.1, .int m_h.2.2.2, g23, g24, g25, g26, g27, g28, g29, g30, g31]))])) (wr := ((a3, .inl (cB33, 26, .inl m_v)) :: (a4, .inl (cB34, 416, .inl m_h.1)) :: (a5, .inl (cB35, 78, .inl m_h.2.1)) :: bX11 a2 uq kq q_q [])) hP hD hK hS hA [3] [0, 1, 2, 4, 5, 6, 7, 8, 9, 10, 11, 12, 13, 14, 15, 16, 17, 18] rfl rfl (by decide) (by decide) (by decide) (fun hPc hDc => (va_runV (As := [.int 5]) (rest := []) ⟨hx, hb, hml, hown, hts⟩ (kfX12_refused l dC dI a0 (5 : Int32) ((0 : Int32), m_t.2) (.ref a2) (g11) (g12) (g13) (g14) (g15) (g16) (g17) (g18) (g19) (g20) (g21) (.ref a3) (g22) (.ref a4) (.ref a5) (.int m_h.2.2.1) (.int m_h.2.2.2) (g23) (g24) (g25) (g26) (g27) (g28) (g29) (g30) (g31) H.size o33 eo33.symm) (cwV 1 hts gfX12_sell_4 rfl rfl rfl (by decide +kernel) ⟨(Nat.le_of_ble_eq_true rfl), (Nat.le_of_ble_eq_true rfl)⟩) (PV hPc (hK.sub (tys' := ([])) [] rfl) hDc hN 0 rfl rfl) rfl rfl hl.1 rfl (lv_room (Nat.le_of_ble_eq_true rfl)) (zat zrX12_sell_0_ok 21 rfl) ⟨(Nat.le_of_ble_eq_true rfl), (Nat.le_of_ble_eq_true rfl)⟩)) (fun r33 _ H locs hw hP hD _ hS => ?_)
      obtain rfl := hw
      obtain ⟨hP, hD⟩ := pd_mk ((a3, .inl (cB33, 26, .inl m_v)) :: (a4, .inl (cB34, 416, .inl m_h.1)) :: (a5, .inl (cB35, 78, .inl m_h.2.1)) :: bX11 a2 uq kq q_q ([(a0, .inr (9, [.int o33.1, .int o33.2.1, .int o33.2.2, .ref a2, g11, g12, g13, g14, g15, g16, g17, g18, g19, g20, g21, .ref a3, g22, .ref a4, .ref a5, .int m_h.2.2.1, .int m_h.2.2.2, g23, g24, g25, g26, g27, g28, g29, g30, g31]))])) hP hD
      obtain rfl := Option.some.inj h
      obtain ⟨hP9, hD9⟩ := pd_sub ((a0, .inr (9, [.int o33.1, .int o33.2.1, .int o33.2.2, .ref a2, g11, g12, g13, g14, g15, g16, g17, g18, g19, g20, g21, .ref a3, g22, .ref a4, .ref a5, .int m_h.2.2.1, .int m_h.2.2.2, g23, g24, g25, g26, g27, g28, g29, g30, g31])) :: bX11 a2 uq kq q_q ([(a3, .inl (cB33, 26, .inl m_v)), (a4, .inl (cB34, 416, .inl m_h.1)), (a5, .inl (cB35, 78, .inl m_h.2.1))])) [18, 3, 4, 5, 6, 7, 8, 9, 10, 11, 12, 13, 14, 15, 16, 17, 0, 1, 2] hP hD (by decide) rfl
      have hK9 := hK.sub (tys' := []) [] rfl
      rw [hQQ]
      exact W.iret (v := (-1 : Int32)) hx hb hr (fun t ht hW => ⟨⟨(-1 : Int32), (), rfl, rfl, by rw [ht]; exact hP9, va_K.moved hW.alike hK9, hD9⟩, hS.F ht⟩) hS.2.2 (zat zrX12_sell_0_ok 22 rfl)
  · have h := (if_pos c10).symm.trans h
    refine lv_aload_n hx hb (zat zrX12_sell_0_ok 7 rfl) rfl (lv_at hl 0 rfl) ?_
    refine lv_iconst (v := 1) hx hb (zat zrX12_sell_0_ok 8 rfl) (by decide) ?_
    obtain ⟨o15, eo15⟩ : ∃ o, o = f_X12_refused (1 : Int32) ((0 : Int32), m_t.2) := ⟨_, rfl⟩
    have h := nm_of h o15 eo15
    refine ck_i (wc := ([(a0, .inr (9, [.int 0, .int m_t.2.1, .int m_t.2.2, .ref a2, g11, g12, g13, g14, g15, g16, g17, g18, g19, g20, g21, .ref a3, g22, .ref a4, .ref a5, .int m_h.2.2.1, .int m_h.2.2.2, g23, g24, g25, g26, g27, g28, g29, g30, g31]))])) (wr := ((a3, .inl (cB33, 26, .inl m_v)) :: (a4, .inl (cB34, 416, .inl m_h.1)) :: (a5, .inl (cB35, 78, .inl m_h.2.1)) :: bX11 a2 uq kq q_q [])) hP hD hK hS hA [3] [0, 1, 2, 4, 5, 6, 7, 8, 9, 10, 11, 12, 13, 14, 15, 16, 17, 18] rfl rfl (by decide) (by decide) (by decide) (fun hPc hDc => (va_runV (As := [.int 1]) (rest := []) ⟨hx, hb, hml, hown, hts⟩ (kfX12_refused l dC dI a0 (1 : Int32) ((0 : Int32), m_t.2) (.ref a2) (g11) (g12) (g13) (g14) (g15) (g16) (g17) (g18) (g19) (g20) (g21) (.ref a3) (g22) (.ref a4) (.ref a5) (.int m_h.2.2.1) (.int m_h.2.2.2) (g23) (g24) (g25) (g26) (g27) (g28) (g29) (g30) (g31) H.size o15 eo15.symm) (cwV 1 hts gfX12_sell_4 rfl rfl rfl (by decide +kernel) ⟨(Nat.le_of_ble_eq_true rfl), (Nat.le_of_ble_eq_true rfl)⟩) (PV hPc (hK.sub (tys' := ([])) [] rfl) hDc hN 0 rfl rfl) rfl rfl hl.1 rfl (lv_room (Nat.le_of_ble_eq_true rfl)) (zat zrX12_sell_0_ok 9 rfl) ⟨(Nat.le_of_ble_eq_true rfl), (Nat.le_of_ble_eq_true rfl)⟩)) (fun r15 _ H locs hw hP hD _ hS => ?_)
    obtain rfl := hw
    obtain ⟨hP, hD⟩ := pd_mk ((a3, .inl (cB33, 26, .inl m_v)) :: (a4, .inl (cB34, 416, .inl m_h.1)) :: (a5, .inl (cB35, 78, .inl m_h.2.1)) :: bX11 a2 uq kq q_q ([(a0, .inr (9, [.int o15.1, .int o15.2.1, .int o15.2.2, .ref a2, g11, g12, g13, g14, g15, g16, g17, g18, g19, g20, g21, .ref a3, g22, .ref a4, .ref a5, .int m_h.2.2.1, .int m_h.2.2.2, g23, g24, g25, g26, g27, g28, g29, g30, g31]))])) hP hD
    obtain rfl := Option.some.inj h
    obtain ⟨hP9, hD9⟩ := pd_sub ((a0, .inr (9, [.int o15.1, .int o15.2.1, .int o15.2.2, .ref a2, g11, g12, g13, g14, g15, g16, g17, g18, g19, g20, g21, .ref a3, g22, .ref a4, .ref a5, .int m_h.2.2.1, .int m_h.2.2.2, g23, g24, g25, g26, g27, g28, g29, g30, g31])) :: bX11 a2 uq kq q_q ([(a3, .inl (cB33, 26, .inl m_v)), (a4, .inl (cB34, 416, .inl m_h.1)), (a5, .inl (cB35, 78, .inl m_h.2.1))])) [18, 3, 4, 5, 6, 7, 8, 9, 10, 11, 12, 13, 14, 15, 16, 17, 0, 1, 2] hP hD (by decide) rfl
    have hK9 := hK.sub (tys' := []) [] rfl
    rw [hQQ]
    exact W.iret (v := (-1 : Int32)) hx hb hr (fun t ht hW => ⟨⟨(-1 : Int32), (), rfl, rfl, by rw [ht]; exact hP9, va_K.moved hW.alike hK9, hD9⟩, hS.F ht⟩) hS.2.2 (zat zrX12_sell_0_ok 10 rfl)
noncomputable def zrX12_spotOf_0 : List ZR := zc 0 true (.iload_n 1) 1 (zc 1 true (.aload_n 0) 1 (zc 2 true (.getfield 299) 3 (zc 5 true (.getfield 175) 3 (zc 8 true (.idiv) 1 (zc 9 true (.aload_n 0) 1 (zc 10 true (.getfield 299) 3 (zc 13 true (.getfield 207) 3 (zc 16 true (.idiv) 1 (zc 17 true (.ireturn) 1 ([]))))))))))
theorem zrX12_spotOf_0_ok : zck 0 ((zby cX12_spotOf).drop 0) zrX12_spotOf_0 = true := by decide +kernel
def vfX12_spotOf : List Cond := List.cons (.code yX12_spotOf cX12_spotOf 2 (some .int)) (apW [.fieldLink RX12 299 "HookPierModel" "pier" "LHookPierModel$Pier;"] (apW wsX120 (wsX110)))
theorem ifX12_spotOf_X12 : ∀ w ∈ wsX120, w ∈ vfX12_spotOf := fun _ h => (List.mem_cons_of_mem _ (List.mem_append_right _ (List.mem_append_left _ h)))
theorem ifX12_spotOf_X11 : ∀ w ∈ wsX110, w ∈ vfX12_spotOf := fun _ h => (List.mem_cons_of_mem _ (List.mem_append_right _ (List.mem_append_right _ h)))
theorem qfX12_spotOf : Good vfX12_spotOf := gd_cons (by decide +kernel) (gd_app (gd_dec (by decide +kernel) : Good [.fieldLink RX12 299 "HookPierModel" "pier" "LHookPierModel$Pier;"]) (gd_app qsX12 qsX11))
set_option maxHeartbeats 2000000 in
set_option maxRecDepth 100000 in
theorem kfX12_spotOf (l : Launch) (dC : Nat → ClassId) (dI : Nat → Nat → Nat) (a0 : Nat) (k1 : Int32) (a2 : Nat) (uq : Nat → Nat) (kq : Nat → ClassId) (g5 : Value) (g6 : Value) (g7 : Value) (g8 : Value) (g9 : Value) (g10 : Value) (g11 : Value) (g12 : Value) (g13 : Value) (g14 : Value) (g15 : Value) (g16 : Value) (g17 : Value) (g18 : Value) (g19 : Value) (g20 : Value) (g21 : Value) (g22 : Value) (g23 : Value) (g24 : Value) (g25 : Value) (g26 : Value) (g27 : Value) (g28 : Value) (g29 : Value) (g30 : Value) (g31 : Value) (g32 : Value) (g33 : Value) (q_q : TX11_q) (sz : Nat) (out : Int32) (h : f_X12_spotOf k1 q_q = some out) : KDi l yX12_spotOf vfX12_spotOf ({ frames := 0, cells := 0, slots := 0, locals := 0 }) (dC, dI) [.ref a0, .int k1] sz ((a0, .inr (9, [g5, g6, g7, .ref a2, g8, g9, g10, g11, g12, g13, g14, g15, g16, g17, g18, g19, g20, g21, g22, g23, g24, g25, g26, g27, g28, g29, g30, g31, g32, g33])) :: bX11 a2 uq kq q_q []) (tX11 kq ([])) (fun (r : Int32) _ => r = out) 0 0 := by
  refine Met.ofW (cc := cX12_spotOf) (maxL := 2) (ret := (some .int)) (by decide) rfl ?_
  intro p e s m args below meth c s₁ B0 hml hv
  obtain ⟨rfl, hsz, hP, hK, hD0, hN⟩ := hv
  have hx := B0.exec
  have hb := B0.bytes
  have hr := B0.returns
  have hts := atoms_spec (ws := vfX12_spotOf) B0.pre
  have hown : s.vm.findClass RX12 = some m.cls := findClass_of_methodNamed B0.named
  have hlocks := B0.notSynchronized
  subst hsz
  have hD := hD0.self (sz := s.heap.size)
  generalize hAe : va_A ((a0, .inr (9, [g5, g6, g7, .ref a2, g8, g9, g10, g11, g12, g13, g14, g15, g16, g17, g18, g19, g20, g21, g22, g23, g24, g25, g26, g27, g28, g29, g30, g31, g32, g33])) :: bX11 a2 uq kq q_q []) s.heap.size = A at hD ⊢
  have hA : ∀ q : Nat, s.heap.size ≤ q → A q := fun q h => by rw [← hAe]; exact Or.inr h
  have hS : va_S A s.heap s.heap [] := va_S.rf
  have hP : va_P (dC, dI) vwCl ((a0, .inr (9, [g5, g6, g7, .ref a2, g8, g9, g10, g11, g12, g13, g14, g15, g16, g17, g18, g19, g20, g21, g22, g23, g24, g25, g26, g27, g28, g29, g30, g31, g32, g33])) :: bX11 a2 uq kq q_q []) s.heap := hP
  have hl := lv_entry ([.ref a0, .int k1]) (n := 2) (Nat.le_of_ble_eq_true rfl)
  rw [lg_entry_eq]
  generalize (lg_sl ([.ref a0, .int k1]) ++ List.replicate (2 - (lg_sl ([.ref a0, .int k1])).length) Slot.unset).toArray = ls at hl ⊢
  have hl : lv_has ls 2 [(0, .ref a0), (1, .int k1)] := hl
  refine W_q (fun QQ hQQ => ?_)
  rw [f_X12_spotOf] at h
  refine lv_iload_n hx hb (zat zrX12_spotOf_0_ok 0 rfl) rfl (lv_at hl 1 rfl) ?_
  refine lv_aload_n hx hb (zat zrX12_spotOf_0_ok 1 rfl) rfl (lv_at hl 0 rfl) ?_
  refine va_get (D := (dC, dI)) (ci := 9) (v := .ref a2) (C := RX12) (T := TX12) (N := 30) hx hb hts ifX12_spotOf_X12 hown hK hP 0 rfl rfl 3 (by decide) (hts (.fieldLink RX12 299 "HookPierModel" "pier" "LHookPierModel$Pier;") (List.mem_of_getElem? (i := 1) rfl)) (fun _ h9 => h9) rfl (zat zrX12_spotOf_0_ok 2 rfl) ?_
  refine va_getN (D := (dC, dI)) (ci := 8) (v := .int q_q.2.2.2.2.1) (C := RX11) (T := TX11) (N := 24) hx hb hts ifX12_spotOf_X11 hown hK hP 1 rfl rfl 4 (by decide) (va_Nw.use rfl (hN.1 (.fieldLinkNest RX12 175 "HookPierModel$Pier" "baits" "I" "HookPierModel") (List.mem_of_getElem? (i := 26) rfl))) (fun _ h9 => h9) rfl (zat zrX12_spotOf_0_ok 3 rfl) ?_
  obtain ⟨hg8, h⟩ := gZi_of h
  refine lv_idiv hx hb (zat zrX12_spotOf_0_ok 4 rfl) hg8 ?_
  refine lv_aload_n hx hb (zat zrX12_spotOf_0_ok 5 rfl) rfl (lv_at hl 0 rfl) ?_
  refine va_get (D := (dC, dI)) (ci := 9) (v := .ref a2) (C := RX12) (T := TX12) (N := 30) hx hb hts ifX12_spotOf_X12 hown hK hP 0 rfl rfl 3 (by decide) (hts (.fieldLink RX12 299 "HookPierModel" "pier" "LHookPierModel$Pier;") (List.mem_of_getElem? (i := 1) rfl)) (fun _ h9 => h9) rfl (zat zrX12_spotOf_0_ok 6 rfl) ?_
  refine va_getN (D := (dC, dI)) (ci := 8) (v := .int q_q.2.1) (C := RX11) (T := TX11) (N := 24) hx hb hts ifX12_spotOf_X11 hown hK hP 1 rfl rfl 1 (by decide) (va_Nw.use rfl (hN.1 (.fieldLinkNest RX12 207 "HookPierModel$Pier" "deep" "I" "HookPierModel") (List.mem_of_getElem? (i := 23) rfl))) (fun _ h9 => h9) rfl (zat zrX12_spotOf_0_ok 7 rfl) ?_
  obtain ⟨hg16, h⟩ := gZi_of h
  refine lv_idiv hx hb (zat zrX12_spotOf_0_ok 8 rfl) hg16 ?_
  obtain rfl := Option.some.inj h
  obtain ⟨hP9, hD9⟩ := pd_sub ((a0, .inr (9, [g5, g6, g7, .ref a2, g8, g9, g10, g11, g12, g13, g14, g15, g16, g17, g18, g19, g20, g21, g22, g23, g24, g25, g26, g27, g28, g29, g30, g31, g32, g33])) :: bX11 a2 uq kq q_q []) [0, 1, 2, 3, 4, 5, 6, 7, 8, 9, 10, 11, 12, 13, 14, 15] hP hD (by decide) rfl
  have hK9 := hK.sub (tys' := []) [] rfl
  rw [hQQ]
  exact W.iret (v := ((k1 / q_q.2.2.2.2.1) / q_q.2.1)) hx hb hr (fun t ht hW => ⟨⟨((k1 / q_q.2.2.2.2.1) / q_q.2.1), (), rfl, rfl, by rw [ht]; exact hP9, va_K.moved hW.alike hK9, hD9⟩, hS.F ht⟩) hS.2.2 (zat zrX12_spotOf_0_ok 9 rfl)
noncomputable def zrX12_apart_0 : List ZR := zc 0 true (.iload_n 0) 1 (zc 1 true (.iload_n 1) 1 (zc 2 true (.if_icmp .ge 9) 3 (zc 5 true (.iload_n 1) 1 (zc 6 true (.iload_n 0) 1 (zc 7 true (.isub) 1 (zc 8 true (.goto 6) 3 (zc 11 true (.iload_n 0) 1 (zc 12 true (.iload_n 1) 1 (zc 13 true (.isub) 1 (zc 14 true (.ireturn) 1 ([])))))))))))
theorem zrX12_apart_0_ok : zck 0 ((zby cX12_apart).drop 0) zrX12_apart_0 = true := by decide +kernel
def vfX12_apart : List Cond := .code yX12_apart cX12_apart 2 (some .int) :: ([])
theorem qfX12_apart : Good vfX12_apart := gd_cons (by decide +kernel) (gd_dec (by decide +kernel) : Good [])
set_option maxHeartbeats 2000000 in
set_option maxRecDepth 100000 in
theorem kfX12_apart (l : Launch) (dC : Nat → ClassId) (dI : Nat → Nat → Nat) (k0 : Int32) (k1 : Int32) (sz : Nat) (out : Int32) (h : f_X12_apart k0 k1 = out) : KDi l yX12_apart vfX12_apart ({ frames := 0, cells := 0, slots := 0, locals := 0 }) (dC, dI) [.int k0, .int k1] sz [] ([]) (fun (r : Int32) _ => r = out) 0 0 := by
  refine Met.ofW (cc := cX12_apart) (maxL := 2) (ret := (some .int)) (by decide) rfl ?_
  intro p e s m args below meth c s₁ B0 hml hv
  obtain ⟨rfl, hsz, hP, hK, hD0, hN⟩ := hv
  have hx := B0.exec
  have hb := B0.bytes
  have hr := B0.returns
  have hts := atoms_spec (ws := vfX12_apart) B0.pre
  have hown : s.vm.findClass RX12 = some m.cls := findClass_of_methodNamed B0.named
  have hlocks := B0.notSynchronized
  subst hsz
  have hD := hD0.self (sz := s.heap.size)
  generalize hAe : va_A [] s.heap.size = A at hD ⊢
  have hA : ∀ q : Nat, s.heap.size ≤ q → A q := fun q h => by rw [← hAe]; exact Or.inr h
  have hS : va_S A s.heap s.heap [] := va_S.rf
  have hP : va_P (dC, dI) vwCl [] s.heap := hP
  have hl := lv_entry ([.int k0, .int k1]) (n := 2) (Nat.le_of_ble_eq_true rfl)
  rw [lg_entry_eq]
  generalize (lg_sl ([.int k0, .int k1]) ++ List.replicate (2 - (lg_sl ([.int k0, .int k1])).length) Slot.unset).toArray = ls at hl ⊢
  have hl : lv_has ls 2 [(0, .int k0), (1, .int k1)] := hl
  refine W_q (fun QQ hQQ => ?_)
  rw [f_X12_apart] at h
  refine lv_iload_n hx hb (zat zrX12_apart_0_ok 0 rfl) rfl (lv_at hl 0 rfl) ?_
  refine lv_iload_n hx hb (zat zrX12_apart_0_ok 1 rfl) rfl (lv_at hl 1 rfl) ?_
  refine lv_icmp_ge (tgt := 11) hx hb (zat zrX12_apart_0_ok 2 rfl) (by decide) (fun c2 => ?_) (fun c2 => ?_)
  · have h := (if_pos c2).symm.trans h
    refine lv_iload_n hx hb (zat zrX12_apart_0_ok 7 rfl) rfl (lv_at hl 0 rfl) ?_
    refine lv_iload_n hx hb (zat zrX12_apart_0_ok 8 rfl) rfl (lv_at hl 1 rfl) ?_
    refine lv_isub hx hb (zat zrX12_apart_0_ok 9 rfl) ?_
    obtain rfl := h
    obtain ⟨hP9, hD9⟩ := pd_sub [] [] hP hD (by decide) rfl
    have hK9 := hK.sub (tys' := []) [] rfl
    rw [hQQ]
    exact W.iret (v := (k0 - k1)) hx hb hr (fun t ht hW => ⟨⟨(k0 - k1), (), rfl, rfl, by rw [ht]; exact hP9, va_K.moved hW.alike hK9, hD9⟩, hS.F ht⟩) hS.2.2 (zat zrX12_apart_0_ok 10 rfl)
  · have h := (if_neg c2).symm.trans h
    refine lv_iload_n hx hb (zat zrX12_apart_0_ok 3 rfl) rfl (lv_at hl 1 rfl) ?_
    refine lv_iload_n hx hb (zat zrX12_apart_0_ok 4 rfl) rfl (lv_at hl 0 rfl) ?_
    refine lv_isub hx hb (zat zrX12_apart_0_ok 5 rfl) ?_
    refine lv_goto (tgt := 14) hx hb (zat zrX12_apart_0_ok 6 rfl) (by decide) ?_
    obtain rfl := h
    obtain ⟨hP9, hD9⟩ := pd_sub [] [] hP hD (by decide) rfl
    have hK9 := hK.sub (tys' := []) [] rfl
    rw [hQQ]
    exact W.iret (v := (k1 - k0)) hx hb hr (fun t ht hW => ⟨⟨(k1 - k0), (), rfl, rfl, by rw [ht]; exact hP9, va_K.moved hW.alike hK9, hD9⟩, hS.F ht⟩) hS.2.2 (zat zrX12_apart_0_ok 10 rfl)
noncomputable def zrX12_areTangled_0 : List ZR := zc 0 true (.iload_n 2) 1 (zc 1 true (.iload 4) 2 (zc 3 true (.invokestatic 327) 3 (zc 6 true (.aload_n 0) 1 (zc 7 true (.getfield 299) 3 (zc 10 true (.getfield 229) 3 (zc 13 true (.iload_n 1) 1 (zc 14 true (.iaload) 1 (zc 15 true (.aload_n 0) 1 (zc 16 true (.getfield 299) 3 (zc 19 true (.getfield 229) 3 (zc 22 true (.iload_n 3) 1 (zc 23 true (.iaload) 1 (zc 24 true (.iadd) 1 (zc 25 true (.if_icmp .gt 7) 3 (zc 28 true (.iconst 1) 1 (zc 29 true (.goto 4) 3 (zc 32 true (.iconst 0) 1 (zc 33 true (.ireturn) 1 ([])))))))))))))))))))
theorem zrX12_areTangled_0_ok : zck 0 ((zby cX12_areTangled).drop 0) zrX12_areTangled_0 = true := by decide +kernel
def vfX12_areTangled : List Cond := List.cons (.code yX12_areTangled cX12_areTangled 5 (some .boolean)) (apW [.methodLink RX12 327 yX12_apart, .static yX12_apart, .initialized RX12, .fieldLink RX12 299 "HookPierModel" "pier" "LHookPierModel$Pier;"] (apW wsX120 (apW wsX110 (vfX12_apart))))
theorem ifX12_areTangled_X12 : ∀ w ∈ wsX120, w ∈ vfX12_areTangled := fun _ h => (List.mem_cons_of_mem _ (List.mem_append_right _ (List.mem_append_left _ h)))
theorem ifX12_areTangled_X11 : ∀ w ∈ wsX110, w ∈ vfX12_areTangled := fun _ h => (List.mem_cons_of_mem _ (List.mem_append_right _ (List.mem_append_right _ (List.mem_append_left _ h))))
theorem qfX12_areTangled : Good vfX12_areTangled := gd_cons (by decide +kernel) (gd_app (gd_dec (by decide +kernel) : Good [.methodLink RX12 327 yX12_apart, .static yX12_apart, .initialized RX12, .fieldLink RX12 299 "HookPierModel" "pier" "LHookPierModel$Pier;"]) (gd_app qsX12 (gd_app qsX11 qfX12_apart)))
theorem gfX12_areTangled_0 : GoodIn vfX12_areTangled (va_wsS RX12 327 yX12_apart vfX12_apart) := goodIn_app (goodIn_r [.methodLink RX12 327 yX12_apart, .static yX12_apart, .initialized RX12] [1, 2, 3] rfl (by decide +kernel)) (goodIn_m (fun _ h => (List.mem_cons_of_mem _ (List.mem_append_right _ (List.mem_append_right _ (List.mem_append_right _ h))))) qfX12_apart)
set_option maxHeartbeats 2000000 in
set_option maxRecDepth 100000 in
theorem kfX12_areTangled (l : Launch) (dC : Nat → ClassId) (dI : Nat → Nat → Nat) (a0 : Nat) (k1 : Int32) (k2 : Int32) (k3 : Int32) (k4 : Int32) (a5 : Nat) (uq : Nat → Nat) (kq : Nat → ClassId) (g8 : Value) (g9 : Value) (g10 : Value) (g11 : Value) (g12 : Value) (g13 : Value) (g14 : Value) (g15 : Value) (g16 : Value) (g17 : Value) (g18 : Value) (g19 : Value) (g20 : Value) (g21 : Value) (g22 : Value) (g23 : Value) (g24 : Value) (g25 : Value) (g26 : Value) (g27 : Value) (g28 : Value) (g29 : Value) (g30 : Value) (g31 : Value) (g32 : Value) (g33 : Value) (g34 : Value) (g35 : Value) (g36 : Value) (q_q : TX11_q) (sz : Nat) (out : Int32) (h : f_X12_areTangled k1 k2 k3 k4 q_q = some out) : KDi l yX12_areTangled vfX12_areTangled ({ frames := 1, cells := 0, slots := 0, locals := 21 }) (dC, dI) [.ref a0, .int k1, .int k2, .int k3, .int k4] sz ((a0, .inr (9, [g8, g9, g10, .ref a5, g11, g12, g13, g14, g15, g16, g17, g18, g19, g20, g21, g22, g23, g24, g25, g26, g27, g28, g29, g30, g31, g32, g33, g34, g35, g36])) :: bX11 a5 uq kq q_q []) (tX11 kq ([])) (fun (r : Int32) _ => r = out ∧ (0 ≤ r.toInt ∧ r.toInt ≤ 1)) 0 0 := by
  refine Met.ofW (cc := cX12_areTangled) (maxL := 5) (ret := (some .boolean)) (by decide) rfl ?_
  intro p e s m args below meth c s₁ B0 hml hv
  obtain ⟨rfl, hsz, hP, hK, hD0, hN⟩ := hv
  have hx := B0.exec
  have hb := B0.bytes
  have hr := B0.returns
  have hts := atoms_spec (ws := vfX12_areTangled) B0.pre
  have hown : s.vm.findClass RX12 = some m.cls := findClass_of_methodNamed B0.named
  have hlocks := B0.notSynchronized
  subst hsz
  have hD := hD0.self (sz := s.heap.size)
  generalize hAe : va_A ((a0, .inr (9, [g8, g9, g10, .ref a5, g11, g12, g13, g14, g15, g16, g17, g18, g19, g20, g21, g22, g23, g24, g25, g26, g27, g28, g29, g30, g31, g32, g33, g34, g35, g36])) :: bX11 a5 uq kq q_q []) s.heap.size = A at hD ⊢
  have hA : ∀ q : Nat, s.heap.size ≤ q → A q := fun q h => by rw [← hAe]; exact Or.inr h
  have hS : va_S A s.heap s.heap [] := va_S.rf
  have hP : va_P (dC, dI) vwCl ((a0, .inr (9, [g8, g9, g10, .ref a5, g11, g12, g13, g14, g15, g16, g17, g18, g19, g20, g21, g22, g23, g24, g25, g26, g27, g28, g29, g30, g31, g32, g33, g34, g35, g36])) :: bX11 a5 uq kq q_q []) s.heap := hP
  have hl := lv_entry ([.ref a0, .int k1, .int k2, .int k3, .int k4]) (n := 5) (Nat.le_of_ble_eq_true rfl)
  rw [lg_entry_eq]
  generalize (lg_sl ([.ref a0, .int k1, .int k2, .int k3, .int k4]) ++ List.replicate (5 - (lg_sl ([.ref a0, .int k1, .int k2, .int k3, .int k4])).length) Slot.unset).toArray = ls at hl ⊢
  have hl : lv_has ls 5 [(0, .ref a0), (1, .int k1), (2, .int k2), (3, .int k3), (4, .int k4)] := hl
  refine W_q (fun QQ hQQ => ?_)
  rw [f_X12_areTangled] at h
  refine lv_iload_n hx hb (zat zrX12_areTangled_0_ok 0 rfl) rfl (lv_at hl 2 rfl) ?_
  refine lv_iload hx hb (zat zrX12_areTangled_0_ok 1 rfl) (lv_at hl 4 rfl) ?_
  obtain ⟨o3, eo3⟩ : ∃ o, o = f_X12_apart k2 k4 := ⟨_, rfl⟩
  have h := nm_of h o3 eo3
  refine ck_i (wc := []) (wr := ((a0, .inr (9, [g8, g9, g10, .ref a5, g11, g12, g13, g14, g15, g16, g17, g18, g19, g20, g21, g22, g23, g24, g25, g26, g27, g28, g29, g30, g31, g32, g33, g34, g35, g36])) :: bX11 a5 uq kq q_q [])) hP hD hK hS hA [] [0, 1, 2, 3, 4, 5, 6, 7, 8, 9, 10, 11, 12, 13, 14, 15] rfl rfl (by decide) (by decide) (by decide) (fun hPc hDc => (va_runS (As := [.int k2, .int k4]) (rest := []) ⟨hx, hb, hml, hown, hts⟩ (kfX12_apart l dC dI k2 k4 s.heap.size o3 eo3.symm) (va_cwS 2 hts gfX12_areTangled_0 rfl rfl rfl (by decide +kernel) ⟨(Nat.le_of_ble_eq_true rfl), (Nat.le_of_ble_eq_true rfl)⟩) (PS hPc (hK.sub (tys' := ([])) [] rfl) hDc hN) rfl rfl hl.1 rfl (lv_room (Nat.le_of_ble_eq_true rfl)) (zat zrX12_areTangled_0_ok 2 rfl) ⟨(Nat.le_of_ble_eq_true rfl), (Nat.le_of_ble_eq_true rfl)⟩)) (fun r3 _ H locs hw hP hD _ hS => ?_)
  obtain rfl := hw.symm
  obtain ⟨hP, hD⟩ := pd_mk ((a0, .inr (9, [g8, g9, g10, .ref a5, g11, g12, g13, g14, g15, g16, g17, g18, g19, g20, g21, g22, g23, g24, g25, g26, g27, g28, g29, g30, g31, g32, g33, g34, g35, g36])) :: bX11 a5 uq kq q_q []) hP hD
  refine lv_aload_n hx hb (zat zrX12_areTangled_0_ok 3 rfl) rfl (lv_at hl 0 rfl) ?_
  refine va_get (D := (dC, dI)) (ci := 9) (v := .ref a5) (C := RX12) (T := TX12) (N := 30) hx hb hts ifX12_areTangled_X12 hown hK hP 0 rfl rfl 3 (by decide) (hts (.fieldLink RX12 299 "HookPierModel" "pier" "LHookPierModel$Pier;") (List.mem_of_getElem? (i := 4) rfl)) (fun _ h9 => h9) rfl (zat zrX12_areTangled_0_ok 4 rfl) ?_
  refine va_getN (D := (dC, dI)) (ci := 8) (v := .ref (uq 0)) (C := RX11) (T := TX11) (N := 24) hx hb hts ifX12_areTangled_X11 hown hK hP 1 rfl rfl 10 (by decide) (va_Nw.use rfl (hN.1 (.fieldLinkNest RX12 229 "HookPierModel$Pier" "reach" "[I" "HookPierModel") (List.mem_of_getElem? (i := 32) rfl))) (fun _ h9 => h9) rfl (zat zrX12_areTangled_0_ok 5 rfl) ?_
  refine lv_iload_n hx hb (zat zrX12_areTangled_0_ok 6 rfl) rfl (lv_at hl 1 rfl) ?_
  obtain ⟨hg14, h⟩ := gA_of h
  refine va_iald hx hb hK hP 2 0 rfl rfl hg14 (zat zrX12_areTangled_0_ok 7 rfl) ?_
  refine lv_aload_n hx hb (zat zrX12_areTangled_0_ok 8 rfl) rfl (lv_at hl 0 rfl) ?_
  refine va_get (D := (dC, dI)) (ci := 9) (v := .ref a5) (C := RX12) (T := TX12) (N := 30) hx hb hts ifX12_areTangled_X12 hown hK hP 0 rfl rfl 3 (by decide) (hts (.fieldLink RX12 299 "HookPierModel" "pier" "LHookPierModel$Pier;") (List.mem_of_getElem? (i := 4) rfl)) (fun _ h9 => h9) rfl (zat zrX12_areTangled_0_ok 9 rfl) ?_
  refine va_getN (D := (dC, dI)) (ci := 8) (v := .ref (uq 0)) (C := RX11) (T := TX11) (N := 24) hx hb hts ifX12_areTangled_X11 hown hK hP 1 rfl rfl 10 (by decide) (va_Nw.use rfl (hN.1 (.fieldLinkNest RX12 229 "HookPierModel$Pier" "reach" "[I" "HookPierModel") (List.mem_of_getElem? (i := 32) rfl))) (fun _ h9 => h9) rfl (zat zrX12_areTangled_0_ok 10 rfl) ?_
  refine lv_iload_n hx hb (zat zrX12_areTangled_0_ok 11 rfl) rfl (lv_at hl 3 rfl) ?_
  obtain ⟨hg23, h⟩ := gA_of h
  refine va_iald hx hb hK hP 2 0 rfl rfl hg23 (zat zrX12_areTangled_0_ok 12 rfl) ?_
  refine lv_iadd hx hb (zat zrX12_areTangled_0_ok 13 rfl) ?_
  refine lv_topi (fun z24 ez24 => ?_)
  have h := nm_of h z24 ez24
  refine lv_icmp_gt (tgt := 32) hx hb (zat zrX12_areTangled_0_ok 14 rfl) (by decide) (fun c25 => ?_) (fun c25 => ?_)
  · have h := (if_pos c25).symm.trans h
    refine lv_iconst (v := 0) hx hb (zat zrX12_areTangled_0_ok 17 rfl) (by decide) ?_
    obtain rfl := Option.some.inj h
    obtain ⟨hP9, hD9⟩ := pd_sub ((a0, .inr (9, [g8, g9, g10, .ref a5, g11, g12, g13, g14, g15, g16, g17, g18, g19, g20, g21, g22, g23, g24, g25, g26, g27, g28, g29, g30, g31, g32, g33, g34, g35, g36])) :: bX11 a5 uq kq q_q []) [0, 1, 2, 3, 4, 5, 6, 7, 8, 9, 10, 11, 12, 13, 14, 15] hP hD (by decide) rfl
    have hK9 := hK.sub (tys' := []) [] rfl
    rw [hQQ]
    exact W.zret (v := (0 : Int32)) hx hb hr rfl (fun t ht hW => ⟨⟨(0 : Int32), (), rfl, ⟨rfl, (by decide)⟩, by rw [ht]; exact hP9, va_K.moved hW.alike hK9, hD9⟩, hS.F ht⟩) hS.2.2 (zat zrX12_areTangled_0_ok 18 rfl)
  · have h := (if_neg c25).symm.trans h
    refine lv_iconst (v := 1) hx hb (zat zrX12_areTangled_0_ok 15 rfl) (by decide) ?_
    refine lv_goto (tgt := 33) hx hb (zat zrX12_areTangled_0_ok 16 rfl) (by decide) ?_
    obtain rfl := Option.some.inj h
    obtain ⟨hP9, hD9⟩ := pd_sub ((a0, .inr (9, [g8, g9, g10, .ref a5, g11, g12, g13, g14, g15, g16, g17, g18, g19, g20, g21, g22, g23, g24, g25, g26, g27, g28, g29, g30, g31, g32, g33, g34, g35, g36])) :: bX11 a5 uq kq q_q []) [0, 1, 2, 3, 4, 5, 6, 7, 8, 9, 10, 11, 12, 13, 14, 15] hP hD (by decide) rfl
    have hK9 := hK.sub (tys' := []) [] rfl
    rw [hQQ]
    exact W.zret (v := (1 : Int32)) hx hb hr rfl (fun t ht hW => ⟨⟨(1 : Int32), (), rfl, ⟨rfl, (by decide)⟩, by rw [ht]; exact hP9, va_K.moved hW.alike hK9, hD9⟩, hS.F ht⟩) hS.2.2 (zat zrX12_areTangled_0_ok 18 rfl)
noncomputable def zrX12_isTangled_0 : List ZR := zc 0 true (.iconst 0) 1 (zc 1 true (.istore_n 3) 1 (zc 2 true (.iload_n 3) 1 (zc 3 true (.aload_n 0) 1 (zc 4 true (.getfield 299) 3 (zc 7 true (.getfield 224) 3 (zc 10 true (.if_icmp .ge 56) 3 (zc 13 true (.iload_n 3) 1 (zc 14 true (.iload_n 2) 1 (zc 15 true (.if_icmp .eq 45) 3 (zc 18 true (.aload_n 1) 1 (zc 19 true (.bipush 18) 2 (zc 21 true (.iload_n 3) 1 (zc 22 true (.iadd) 1 (zc 23 true (.iaload) 1 (zc 24 true (.bipush (-2)) 2 (zc 26 true (.if_icmp .eq 34) 3 (zc 29 true (.aload_n 0) 1 (zc 30 true (.iload_n 2) 1 (zc 31 true (.aload_n 0) 1 (zc 32 true (.aload_n 1) 1 (zc 33 true (.bipush 18) 2 (zc 35 true (.iload_n 2) 1 (zc 36 true (.iadd) 1 (zc 37 true (.iaload) 1 (zc 38 true (.invokevirtual 307) 3 (zc 41 true (.iload_n 3) 1 (zc 42 true (.aload_n 0) 1 (zc 43 true (.aload_n 1) 1 (zc 44 true (.bipush 18) 2 (zc 46 true (.iload_n 3) 1 (zc 47 true (.iadd) 1 (zc 48 true (.iaload) 1 (zc 49 true (.invokevirtual 307) 3 (zc 52 true (.invokevirtual 330) 3 (zc 55 true (.ifCond .eq 5) 3 (zc 58 true (.iconst 1) 1 (zc 59 true (.ireturn) 1 (zc 60 true (.iinc 3 1) 3 (zc 63 true (.goto (-61)) 3 (zc 66 true (.iconst 0) 1 (zc 67 true (.ireturn) 1 ([]))))))))))))))))))))))))))))))))))))))))))
theorem zrX12_isTangled_0_ok : zck 0 ((zby cX12_isTangled).drop 0) zrX12_isTangled_0 = true := by decide +kernel
def vfX12_isTangled : List Cond := List.cons (.code yX12_isTangled cX12_isTangled 4 (some .boolean)) (apW [.fieldLink RX12 299 "HookPierModel" "pier" "LHookPierModel$Pier;", .methodLink RX12 307 yX12_spotOf, .instanceMethod yX12_spotOf, .selects RX12 yX12_spotOf yX12_spotOf, .initialized RX12, .methodLink RX12 330 yX12_areTangled, .instanceMethod yX12_areTangled, .selects RX12 yX12_areTangled yX12_areTangled] (apW wsX120 (apW wsX110 (apW vfX12_spotOf (vfX12_areTangled)))))
theorem ifX12_isTangled_X12 : ∀ w ∈ wsX120, w ∈ vfX12_isTangled := fun _ h => (List.mem_cons_of_mem _ (List.mem_append_right _ (List.mem_append_left _ h)))
theorem ifX12_isTangled_X11 : ∀ w ∈ wsX110, w ∈ vfX12_isTangled := fun _ h => (List.mem_cons_of_mem _ (List.mem_append_right _ (List.mem_append_right _ (List.mem_append_left _ h))))
theorem qfX12_isTangled : Good vfX12_isTangled := gd_cons (by decide +kernel) (gd_app (gd_dec (by decide +kernel) : Good [.fieldLink RX12 299 "HookPierModel" "pier" "LHookPierModel$Pier;", .methodLink RX12 307 yX12_spotOf, .instanceMethod yX12_spotOf, .selects RX12 yX12_spotOf yX12_spotOf, .initialized RX12, .methodLink RX12 330 yX12_areTangled, .instanceMethod yX12_areTangled, .selects RX12 yX12_areTangled yX12_areTangled]) (gd_app qsX12 (gd_app qsX11 (gd_app qfX12_spotOf qfX12_areTangled))))
theorem gfX12_isTangled_0 : GoodIn vfX12_isTangled (wsV RX12 307 RX12 yX12_spotOf vfX12_spotOf) := goodIn_app (goodIn_r [.methodLink RX12 307 yX12_spotOf, .instanceMethod yX12_spotOf, .selects RX12 yX12_spotOf yX12_spotOf, .initialized RX12] [2, 3, 4, 5] rfl (by decide +kernel)) (goodIn_m (fun _ h => (List.mem_cons_of_mem _ (List.mem_append_right _ (List.mem_append_right _ (List.mem_append_right _ (List.mem_append_left _ h)))))) qfX12_spotOf)
theorem gfX12_isTangled_1 : GoodIn vfX12_isTangled (wsV RX12 330 RX12 yX12_areTangled vfX12_areTangled) := goodIn_app (goodIn_r [.methodLink RX12 330 yX12_areTangled, .instanceMethod yX12_areTangled, .selects RX12 yX12_areTangled yX12_areTangled, .initialized RX12] [6, 7, 8, 5] rfl (by decide +kernel)) (goodIn_m (fun _ h => (List.mem_cons_of_mem _ (List.mem_append_right _ (List.mem_append_right _ (List.mem_append_right _ (List.mem_append_right _ h)))))) qfX12_areTangled)
set_option maxHeartbeats 2000000 in
set_option maxRecDepth 100000 in
theorem kfX12_isTangled (l : Launch) (dC : Nat → ClassId) (dI : Nat → Nat → Nat) (a0 : Nat) (a1 : Nat) (k2 : Int32) (a3 : Nat) (uq : Nat → Nat) (kq : Nat → ClassId) (m_v : TX12_v) (g7 : Value) (g8 : Value) (g9 : Value) (g10 : Value) (g11 : Value) (g12 : Value) (g13 : Value) (g14 : Value) (g15 : Value) (g16 : Value) (g17 : Value) (g18 : Value) (g19 : Value) (g20 : Value) (g21 : Value) (g22 : Value) (g23 : Value) (g24 : Value) (g25 : Value) (g26 : Value) (g27 : Value) (g28 : Value) (g29 : Value) (g30 : Value) (g31 : Value) (g32 : Value) (g33 : Value) (g34 : Value) (q_q : TX11_q) (cB36 : ClassId) (sz : Nat) (out : Int32) (h : f_X12_isTangled k2 m_v q_q = some out) : KDi l yX12_isTangled vfX12_isTangled ({ frames := 2, cells := 0, slots := 0, locals := 45 }) (dC, dI) [.ref a0, .ref a1, .int k2] sz ((a0, .inr (9, [g7, g8, g9, .ref a3, g10, g11, g12, g13, g14, g15, g16, g17, g18, g19, g20, .ref a1, g21, g22, g23, g24, g25, g26, g27, g28, g29, g30, g31, g32, g33, g34])) :: bX11 a3 uq kq q_q ([(a1, .inl (cB36, 26, .inl m_v))])) (tX11 kq ((cB36, .int) :: [])) (fun (r : Int32) _ => r = out ∧ (0 ≤ r.toInt ∧ r.toInt ≤ 1)) 0 0 := by
  refine Met.ofW (cc := cX12_isTangled) (maxL := 4) (ret := (some .boolean)) (by decide) rfl ?_
  intro p e s m args below meth c s₁ B0 hml hv
  obtain ⟨rfl, hsz, hP, hK, hD0, hN⟩ := hv
  have hx := B0.exec
  have hb := B0.bytes
  have hr := B0.returns
  have hts := atoms_spec (ws := vfX12_isTangled) B0.pre
  have hown : s.vm.findClass RX12 = some m.cls := findClass_of_methodNamed B0.named
  have hlocks := B0.notSynchronized
  subst hsz
  have hD := hD0.self (sz := s.heap.size)
  generalize hAe : va_A ((a0, .inr (9, [g7, g8, g9, .ref a3, g10, g11, g12, g13, g14, g15, g16, g17, g18, g19, g20, .ref a1, g21, g22, g23, g24, g25, g26, g27, g28, g29, g30, g31, g32, g33, g34])) :: bX11 a3 uq kq q_q ([(a1, .inl (cB36, 26, .inl m_v))])) s.heap.size = A at hD ⊢
  have hA : ∀ q : Nat, s.heap.size ≤ q → A q := fun q h => by rw [← hAe]; exact Or.inr h
  have hS : va_S A s.heap s.heap [] := va_S.rf
  have hP : va_P (dC, dI) vwCl ((a0, .inr (9, [g7, g8, g9, .ref a3, g10, g11, g12, g13, g14, g15, g16, g17, g18, g19, g20, .ref a1, g21, g22, g23, g24, g25, g26, g27, g28, g29, g30, g31, g32, g33, g34])) :: bX11 a3 uq kq q_q ([(a1, .inl (cB36, 26, .inl m_v))])) s.heap := hP
  have hl := lv_entry ([.ref a0, .ref a1, .int k2]) (n := 4) (Nat.le_of_ble_eq_true rfl)
  rw [lg_entry_eq]
  generalize (lg_sl ([.ref a0, .ref a1, .int k2]) ++ List.replicate (4 - (lg_sl ([.ref a0, .ref a1, .int k2])).length) Slot.unset).toArray = ls at hl ⊢
  have hl : lv_has ls 4 [(0, .ref a0), (1, .ref a1), (2, .int k2)] := hl
  refine W_q (fun QQ hQQ => ?_)
  rw [f_X12_isTangled] at h
  refine lv_iconst (v := 0) hx hb (zat zrX12_isTangled_0_ok 0 rfl) (by decide) ?_
  refine lv_istore_n (lv' := [(3, .int 0), (0, .ref a0), (1, .ref a1), (2, .int k2)]) hx hb (zat zrX12_isTangled_0_ok 1 rfl) rfl hl (by decide) rfl (fun ls hl => ?_)
  have L2 : ∀ (n2 : Nat) (v2_l3 : Int32) (H : Heap) (locs : List Loc) (ls : Array Slot), f_X12_isTangled_L2 k2 m_v q_q n2 v2_l3 = some out → va_P (dC, dI) vwCl ((a0, .inr (9, [g7, g8, g9, .ref a3, g10, g11, g12, g13, g14, g15, g16, g17, g18, g19, g20, .ref a1, g21, g22, g23, g24, g25, g26, g27, g28, g29, g30, g31, g32, g33, g34])) :: bX11 a3 uq kq q_q ([(a1, .inl (cB36, 26, .inl m_v))])) H → va_D A ((a0, .inr (9, [g7, g8, g9, .ref a3, g10, g11, g12, g13, g14, g15, g16, g17, g18, g19, g20, .ref a1, g21, g22, g23, g24, g25, g26, g27, g28, g29, g30, g31, g32, g33, g34])) :: bX11 a3 uq kq q_q ([(a1, .inl (cB36, 26, .inl m_v))])) → va_S A s.heap H locs → lv_has ls 4 [(3, .int v2_l3), (0, .ref a0), (1, .ref a1), (2, .int k2)] → W p l e (headSpec vfX12_isTangled { frames := 2, cells := 0, slots := 0, locals := 45 }).room s m ([.ref a0, .ref a1, .int k2]).toArray below meth c H locs 0 0 QQ (F0 m 2 ls []) := by
    intro n2
    induction n2 with
    | zero =>
      intro v2_l3 H locs ls h  _ _ _ _
      rw [f_X12_isTangled_L2] at h
      cases h
    | succ n2 ih2 =>
      intro v2_l3 H locs ls h  hP hD hS hl
      rw [f_X12_isTangled_L2] at h
      refine lv_iload_n hx hb (zat zrX12_isTangled_0_ok 2 rfl) rfl (lv_at hl 0 rfl) ?_
      refine lv_aload_n hx hb (zat zrX12_isTangled_0_ok 3 rfl) rfl (lv_at hl 1 rfl) ?_
      refine va_get (D := (dC, dI)) (ci := 9) (v := .ref a3) (C := RX12) (T := TX12) (N := 30) hx hb hts ifX12_isTangled_X12 hown hK hP 0 rfl rfl 3 (by decide) (hts (.fieldLink RX12 299 "HookPierModel" "pier" "LHookPierModel$Pier;") (List.mem_of_getElem? (i := 1) rfl)) (fun _ h9 => h9) rfl (zat zrX12_isTangled_0_ok 4 rfl) ?_
      refine va_getN (D := (dC, dI)) (ci := 8) (v := .int q_q.2.2.2.2.2.1) (C := RX11) (T := TX11) (N := 24) hx hb hts ifX12_isTangled_X11 hown hK hP 1 rfl rfl 5 (by decide) (va_Nw.use rfl (hN.1 (.fieldLinkNest RX12 224 "HookPierModel$Pier" "askers" "I" "HookPierModel") (List.mem_of_getElem? (i := 27) rfl))) (fun _ h9 => h9) rfl (zat zrX12_isTangled_0_ok 5 rfl) ?_
      refine lv_icmp_ge (tgt := 66) hx hb (zat zrX12_isTangled_0_ok 6 rfl) (by decide) (fun c10 => ?_) (fun c10 => ?_)
      · have h := (if_pos c10).symm.trans h
        refine lv_iconst (v := 0) hx hb (zat zrX12_isTangled_0_ok 40 rfl) (by decide) ?_
        obtain rfl := Option.some.inj h
        obtain ⟨hP9, hD9⟩ := pd_sub ((a0, .inr (9, [g7, g8, g9, .ref a3, g10, g11, g12, g13, g14, g15, g16, g17, g18, g19, g20, .ref a1, g21, g22, g23, g24, g25, g26, g27, g28, g29, g30, g31, g32, g33, g34])) :: bX11 a3 uq kq q_q ([(a1, .inl (cB36, 26, .inl m_v))])) [0, 1, 2, 3, 4, 5, 6, 7, 8, 9, 10, 11, 12, 13, 14, 15, 16] hP hD (by decide) rfl
        have hK9 := hK.sub (tys' := []) [] rfl
        rw [hQQ]
        exact W.zret (v := (0 : Int32)) hx hb hr rfl (fun t ht hW => ⟨⟨(0 : Int32), (), rfl, ⟨rfl, (by decide)⟩, by rw [ht]; exact hP9, va_K.moved hW.alike hK9, hD9⟩, hS.F ht⟩) hS.2.2 (zat zrX12_isTangled_0_ok 41 rfl)
      · have h := (if_neg c10).symm.trans h
        refine lv_iload_n hx hb (zat zrX12_isTangled_0_ok 7 rfl) rfl (lv_at hl 0 rfl) ?_
        refine lv_iload_n hx hb (zat zrX12_isTangled_0_ok 8 rfl) rfl (lv_at hl 3 rfl) ?_
        have J60 : ∀ (H : Heap) (locs : List Loc) (ls : Array Slot), f_X12_isTangled_J60 (f_X12_isTangled_L2 k2 m_v q_q n2) v2_l3 = some out → va_P (dC, dI) vwCl ((a0, .inr (9, [g7, g8, g9, .ref a3, g10, g11, g12, g13, g14, g15, g16, g17, g18, g19, g20, .ref a1, g21, g22, g23, g24, g25, g26, g27, g28, g29, g30, g31, g32, g33, g34])) :: bX11 a3 uq kq q_q ([(a1, .inl (cB36, 26, .inl m_v))])) H → va_D A ((a0, .inr (9, [g7, g8, g9, .ref a3, g10, g11, g12, g13, g14, g15, g16, g17, g18, g19, g20, .ref a1, g21, g22, g23, g24, g25, g26, g27, g28, g29, g30, g31, g32, g33, g34])) :: bX11 a3 uq kq q_q ([(a1, .inl (cB36, 26, .inl m_v))])) → va_S A s.heap H locs → lv_has ls 4 [(3, .int v2_l3), (0, .ref a0), (1, .ref a1), (2, .int k2)] → W p l e (headSpec vfX12_isTangled { frames := 2, cells := 0, slots := 0, locals := 45 }).room s m ([.ref a0, .ref a1, .int k2]).toArray below meth c H locs 0 0 QQ (F0 m 60 ls []) := by
          intro  H locs ls h  hP hD hS hl
          rw [f_X12_isTangled_J60] at h
          refine lv_iinc (v := (v2_l3 + (1 : Int32))) (lv' := [(3, .int (v2_l3 + (1 : Int32))), (0, .ref a0), (1, .ref a1), (2, .int k2)]) hx hb (zat zrX12_isTangled_0_ok 38 rfl) hl (k := 0) rfl rfl (by decide) rfl (fun ls hl => ?_)
          refine lv_goto (tgt := 2) hx hb (zat zrX12_isTangled_0_ok 39 rfl) (by decide) ?_
          exact ih2 (v2_l3 + (1 : Int32)) H _ ls h  hP hD hS (lv_sub hl [0, 1, 2, 3] rfl)
        refine lv_icmp_eq (tgt := 60) hx hb (zat zrX12_isTangled_0_ok 9 rfl) (by decide) (fun c15 => ?_) (fun c15 => ?_)
        · have h := (if_pos c15).symm.trans h
          exact J60  H _ ls h  hP hD hS (lv_sub hl [0, 1, 2, 3] rfl)
        · have h := (if_neg c15).symm.trans h
          refine lv_aload_n hx hb (zat zrX12_isTangled_0_ok 10 rfl) rfl (lv_at hl 2 rfl) ?_
          refine lv_bipush (v := 18) hx hb (zat zrX12_isTangled_0_ok 11 rfl) (by decide) ?_
          refine lv_iload_n hx hb (zat zrX12_isTangled_0_ok 12 rfl) rfl (lv_at hl 0 rfl) ?_
          refine lv_iadd hx hb (zat zrX12_isTangled_0_ok 13 rfl) ?_
          obtain ⟨hg23, h⟩ := gA_of h
          refine va_iald hx hb hK hP 16 14 rfl rfl hg23 (zat zrX12_isTangled_0_ok 14 rfl) ?_
          refine lv_bipush (v := (-2)) hx hb (zat zrX12_isTangled_0_ok 15 rfl) (by decide) ?_
          refine lv_icmp_eq (tgt := 60) hx hb (zat zrX12_isTangled_0_ok 16 rfl) (by decide) (fun c26 => ?_) (fun c26 => ?_)
          · have h := (if_pos c26).symm.trans h
            exact J60  H _ ls h  hP hD hS (lv_sub hl [0, 1, 2, 3] rfl)
          · have h := (if_neg c26).symm.trans h
            refine lv_aload_n hx hb (zat zrX12_isTangled_0_ok 17 rfl) rfl (lv_at hl 1 rfl) ?_
            refine lv_iload_n hx hb (zat zrX12_isTangled_0_ok 18 rfl) rfl (lv_at hl 3 rfl) ?_
            refine lv_aload_n hx hb (zat zrX12_isTangled_0_ok 19 rfl) rfl (lv_at hl 1 rfl) ?_
            refine lv_aload_n hx hb (zat zrX12_isTangled_0_ok 20 rfl) rfl (lv_at hl 2 rfl) ?_
            refine lv_bipush (v := 18) hx hb (zat zrX12_isTangled_0_ok 21 rfl) (by decide) ?_
            refine lv_iload_n hx hb (zat zrX12_isTangled_0_ok 22 rfl) rfl (lv_at hl 3 rfl) ?_
            refine lv_iadd hx hb (zat zrX12_isTangled_0_ok 23 rfl) ?_
            obtain ⟨hg37, h⟩ := gA_of h
            refine va_iald hx hb hK hP 16 14 rfl rfl hg37 (zat zrX12_isTangled_0_ok 24 rfl) ?_
            obtain ⟨o38, eo38, h⟩ := bd_of h
            refine ck_i (wc := ((a0, .inr (9, [g7, g8, g9, .ref a3, g10, g11, g12, g13, g14, g15, g16, g17, g18, g19, g20, .ref a1, g21, g22, g23, g24, g25, g26, g27, g28, g29, g30, g31, g32, g33, g34])) :: bX11 a3 uq kq q_q [])) (wr := ([(a1, .inl (cB36, 26, .inl m_v))])) hP hD hK hS hA [0, 1, 2, 3, 4, 5, 6, 7, 8, 9, 10, 11, 12, 13, 14, 15] [16] rfl rfl (by decide) (by decide) (by decide) (fun hPc hDc => (va_runV (As := [.int (m_v (((18 : Int32) + k2)).toNatClampNeg)]) (rest := [.int k2, .ref a0]) ⟨hx, hb, hml, hown, hts⟩ (kfX12_spotOf l dC dI a0 (m_v (((18 : Int32) + k2)).toNatClampNeg) a3 uq kq (g7) (g8) (g9) (g10) (g11) (g12) (g13) (g14) (g15) (g16) (g17) (g18) (g19) (g20) (.ref a1) (g21) (g22) (g23) (g24) (g25) (g26) (g27) (g28) (g29) (g30) (g31) (g32) (g33) (g34) q_q H.size o38 eo38) (cwV 1 hts gfX12_isTangled_0 rfl rfl rfl (by decide +kernel) ⟨(Nat.le_of_ble_eq_true rfl), (Nat.le_of_ble_eq_true rfl)⟩) (PV hPc (hK.sub (tys' := (tX11 kq ([]))) [0, 1, 2, 3, 4, 5, 6, 7, 8, 9, 10, 11, 12, 13] rfl) hDc hN 0 rfl rfl) rfl rfl hl.1 rfl (lv_room (Nat.le_of_ble_eq_true rfl)) (zat zrX12_isTangled_0_ok 25 rfl) ⟨(Nat.le_of_ble_eq_true rfl), (Nat.le_of_ble_eq_true rfl)⟩)) (fun r38 _ H locs hw hP hD _ hS => ?_)
            obtain rfl := hw.symm
            obtain ⟨hP, hD⟩ := pd_mk ((a1, .inl (cB36, 26, .inl m_v)) :: (a0, .inr (9, [g7, g8, g9, .ref a3, g10, g11, g12, g13, g14, g15, g16, g17, g18, g19, g20, .ref a1, g21, g22, g23, g24, g25, g26, g27, g28, g29, g30, g31, g32, g33, g34])) :: bX11 a3 uq kq q_q []) hP hD
            refine lv_iload_n hx hb (zat zrX12_isTangled_0_ok 26 rfl) rfl (lv_at hl 0 rfl) ?_
            refine lv_aload_n hx hb (zat zrX12_isTangled_0_ok 27 rfl) rfl (lv_at hl 1 rfl) ?_
            refine lv_aload_n hx hb (zat zrX12_isTangled_0_ok 28 rfl) rfl (lv_at hl 2 rfl) ?_
            refine lv_bipush (v := 18) hx hb (zat zrX12_isTangled_0_ok 29 rfl) (by decide) ?_
            refine lv_iload_n hx hb (zat zrX12_isTangled_0_ok 30 rfl) rfl (lv_at hl 0 rfl) ?_
            refine lv_iadd hx hb (zat zrX12_isTangled_0_ok 31 rfl) ?_
            obtain ⟨hg48, h⟩ := gA_of h
            refine va_iald hx hb hK hP 0 14 rfl rfl hg48 (zat zrX12_isTangled_0_ok 32 rfl) ?_
            obtain ⟨o49, eo49, h⟩ := bd_of h
            refine ck_i (wc := ((a0, .inr (9, [g7, g8, g9, .ref a3, g10, g11, g12, g13, g14, g15, g16, g17, g18, g19, g20, .ref a1, g21, g22, g23, g24, g25, g26, g27, g28, g29, g30, g31, g32, g33, g34])) :: bX11 a3 uq kq q_q [])) (wr := ([(a1, .inl (cB36, 26, .inl m_v))])) hP hD hK hS hA [1, 2, 3, 4, 5, 6, 7, 8, 9, 10, 11, 12, 13, 14, 15, 16] [0] rfl rfl (by decide) (by decide) (by decide) (fun hPc hDc => (va_runV (As := [.int (m_v (((18 : Int32) + v2_l3)).toNatClampNeg)]) (rest := [.int v2_l3, .int o38, .int k2, .ref a0]) ⟨hx, hb, hml, hown, hts⟩ (kfX12_spotOf l dC dI a0 (m_v (((18 : Int32) + v2_l3)).toNatClampNeg) a3 uq kq (g7) (g8) (g9) (g10) (g11) (g12) (g13) (g14) (g15) (g16) (g17) (g18) (g19) (g20) (.ref a1) (g21) (g22) (g23) (g24) (g25) (g26) (g27) (g28) (g29) (g30) (g31) (g32) (g33) (g34) q_q H.size o49 eo49) (cwV 1 hts gfX12_isTangled_0 rfl rfl rfl (by decide +kernel) ⟨(Nat.le_of_ble_eq_true rfl), (Nat.le_of_ble_eq_true rfl)⟩) (PV hPc (hK.sub (tys' := (tX11 kq ([]))) [0, 1, 2, 3, 4, 5, 6, 7, 8, 9, 10, 11, 12, 13] rfl) hDc hN 0 rfl rfl) rfl rfl hl.1 rfl (lv_room (Nat.le_of_ble_eq_true rfl)) (zat zrX12_isTangled_0_ok 33 rfl) ⟨(Nat.le_of_ble_eq_true rfl), (Nat.le_of_ble_eq_true rfl)⟩)) (fun r49 _ H locs hw hP hD _ hS => ?_)
            obtain rfl := hw.symm
            obtain ⟨hP, hD⟩ := pd_mk ((a1, .inl (cB36, 26, .inl m_v)) :: (a0, .inr (9, [g7, g8, g9, .ref a3, g10, g11, g12, g13, g14, g15, g16, g17, g18, g19, g20, .ref a1, g21, g22, g23, g24, g25, g26, g27, g28, g29, g30, g31, g32, g33, g34])) :: bX11 a3 uq kq q_q []) hP hD
            obtain ⟨o52, eo52, h⟩ := bd_of h
            refine ck_i (wc := ((a0, .inr (9, [g7, g8, g9, .ref a3, g10, g11, g12, g13, g14, g15, g16, g17, g18, g19, g20, .ref a1, g21, g22, g23, g24, g25, g26, g27, g28, g29, g30, g31, g32, g33, g34])) :: bX11 a3 uq kq q_q [])) (wr := ([(a1, .inl (cB36, 26, .inl m_v))])) hP hD hK hS hA [1, 2, 3, 4, 5, 6, 7, 8, 9, 10, 11, 12, 13, 14, 15, 16] [0] rfl rfl (by decide) (by decide) (by decide) (fun hPc hDc => (va_runV (As := [.int k2, .int o38, .int v2_l3, .int o49]) (rest := []) ⟨hx, hb, hml, hown, hts⟩ (kfX12_areTangled l dC dI a0 k2 o38 v2_l3 o49 a3 uq kq (g7) (g8) (g9) (g10) (g11) (g12) (g13) (g14) (g15) (g16) (g17) (g18) (g19) (g20) (.ref a1) (g21) (g22) (g23) (g24) (g25) (g26) (g27) (g28) (g29) (g30) (g31) (g32) (g33) (g34) q_q H.size o52 eo52) (cwV 4 hts gfX12_isTangled_1 rfl rfl rfl (by decide +kernel) ⟨(Nat.le_of_ble_eq_true rfl), (Nat.le_of_ble_eq_true rfl)⟩) (PV hPc (hK.sub (tys' := (tX11 kq ([]))) [0, 1, 2, 3, 4, 5, 6, 7, 8, 9, 10, 11, 12, 13] rfl) hDc hN 0 rfl rfl) rfl rfl hl.1 rfl (lv_room (Nat.le_of_ble_eq_true rfl)) (zat zrX12_isTangled_0_ok 34 rfl) ⟨(Nat.le_of_ble_eq_true rfl), (Nat.le_of_ble_eq_true rfl)⟩)) (fun r52 _ H locs hw hP hD _ hS => ?_)
            obtain ⟨hw, br52⟩ := hw
            obtain rfl := hw.symm
            obtain ⟨hP, hD⟩ := pd_mk ((a1, .inl (cB36, 26, .inl m_v)) :: (a0, .inr (9, [g7, g8, g9, .ref a3, g10, g11, g12, g13, g14, g15, g16, g17, g18, g19, g20, .ref a1, g21, g22, g23, g24, g25, g26, g27, g28, g29, g30, g31, g32, g33, g34])) :: bX11 a3 uq kq q_q []) hP hD
            refine lv_if_eq (tgt := 60) hx hb (zat zrX12_isTangled_0_ok 35 rfl) (by decide) (fun c55 => ?_) (fun c55 => ?_)
            · have h := (if_pos c55).symm.trans h
              exact J60  H _ ls h  (hP.sub (ws' := ((a0, .inr (9, [g7, g8, g9, .ref a3, g10, g11, g12, g13, g14, g15, g16, g17, g18, g19, g20, .ref a1, g21, g22, g23, g24, g25, g26, g27, g28, g29, g30, g31, g32, g33, g34])) :: bX11 a3 uq kq q_q ([(a1, .inl (cB36, 26, .inl m_v))]))) [1, 2, 3, 4, 5, 6, 7, 8, 9, 10, 11, 12, 13, 14, 15, 16, 0] rfl) (hD.sub (ws' := ((a0, .inr (9, [g7, g8, g9, .ref a3, g10, g11, g12, g13, g14, g15, g16, g17, g18, g19, g20, .ref a1, g21, g22, g23, g24, g25, g26, g27, g28, g29, g30, g31, g32, g33, g34])) :: bX11 a3 uq kq q_q ([(a1, .inl (cB36, 26, .inl m_v))]))) [1, 2, 3, 4, 5, 6, 7, 8, 9, 10, 11, 12, 13, 14, 15, 16, 0] (by decide) rfl) hS (lv_sub hl [0, 1, 2, 3] rfl)
            · have h := (if_neg c55).symm.trans h
              refine lv_iconst (v := 1) hx hb (zat zrX12_isTangled_0_ok 36 rfl) (by decide) ?_
              obtain rfl := Option.some.inj h
              obtain ⟨hP9, hD9⟩ := pd_sub ((a0, .inr (9, [g7, g8, g9, .ref a3, g10, g11, g12, g13, g14, g15, g16, g17, g18, g19, g20, .ref a1, g21, g22, g23, g24, g25, g26, g27, g28, g29, g30, g31, g32, g33, g34])) :: bX11 a3 uq kq q_q ([(a1, .inl (cB36, 26, .inl m_v))])) [1, 2, 3, 4, 5, 6, 7, 8, 9, 10, 11, 12, 13, 14, 15, 16, 0] hP hD (by decide) rfl
              have hK9 := hK.sub (tys' := []) [] rfl
              rw [hQQ]
              exact W.zret (v := (1 : Int32)) hx hb hr rfl (fun t ht hW => ⟨⟨(1 : Int32), (), rfl, ⟨rfl, (by decide)⟩, by rw [ht]; exact hP9, va_K.moved hW.alike hK9, hD9⟩, hS.F ht⟩) hS.2.2 (zat zrX12_isTangled_0_ok 37 rfl)
  exact L2 FU (0 : Int32) s.heap _ ls h  hP hD hS (lv_sub hl [0, 1, 2, 3] rfl)
noncomputable def zrX12_fathomsOf_0 : List ZR := zc 0 true (.iload_n 1) 1 (zc 1 true (.aload_n 0) 1 (zc 2 true (.getfield 299) 3 (zc 5 true (.getfield 175) 3 (zc 8 true (.idiv) 1 (zc 9 true (.aload_n 0) 1 (zc 10 true (.getfield 299) 3 (zc 13 true (.getfield 207) 3 (zc 16 true (.irem) 1 (zc 17 true (.iconst 1) 1 (zc 18 true (.iadd) 1 (zc 19 true (.ireturn) 1 ([]))))))))))))
theorem zrX12_fathomsOf_0_ok : zck 0 ((zby cX12_fathomsOf).drop 0) zrX12_fathomsOf_0 = true := by decide +kernel
def vfX12_fathomsOf : List Cond := List.cons (.code yX12_fathomsOf cX12_fathomsOf 2 (some .int)) (apW [.fieldLink RX12 299 "HookPierModel" "pier" "LHookPierModel$Pier;"] (apW wsX120 (wsX110)))
theorem ifX12_fathomsOf_X12 : ∀ w ∈ wsX120, w ∈ vfX12_fathomsOf := fun _ h => (List.mem_cons_of_mem _ (List.mem_append_right _ (List.mem_append_left _ h)))
theorem ifX12_fathomsOf_X11 : ∀ w ∈ wsX110, w ∈ vfX12_fathomsOf := fun _ h => (List.mem_cons_of_mem _ (List.mem_append_right _ (List.mem_append_right _ h)))
theorem qfX12_fathomsOf : Good vfX12_fathomsOf := gd_cons (by decide +kernel) (gd_app (gd_dec (by decide +kernel) : Good [.fieldLink RX12 299 "HookPierModel" "pier" "LHookPierModel$Pier;"]) (gd_app qsX12 qsX11))
set_option maxHeartbeats 2000000 in
set_option maxRecDepth 100000 in
theorem kfX12_fathomsOf (l : Launch) (dC : Nat → ClassId) (dI : Nat → Nat → Nat) (a0 : Nat) (k1 : Int32) (a2 : Nat) (uq : Nat → Nat) (kq : Nat → ClassId) (g5 : Value) (g6 : Value) (g7 : Value) (g8 : Value) (g9 : Value) (g10 : Value) (g11 : Value) (g12 : Value) (g13 : Value) (g14 : Value) (g15 : Value) (g16 : Value) (g17 : Value) (g18 : Value) (g19 : Value) (g20 : Value) (g21 : Value) (g22 : Value) (g23 : Value) (g24 : Value) (g25 : Value) (g26 : Value) (g27 : Value) (g28 : Value) (g29 : Value) (g30 : Value) (g31 : Value) (g32 : Value) (g33 : Value) (q_q : TX11_q) (sz : Nat) (out : Int32) (h : f_X12_fathomsOf k1 q_q = some out) : KDi l yX12_fathomsOf vfX12_fathomsOf ({ frames := 0, cells := 0, slots := 0, locals := 0 }) (dC, dI) [.ref a0, .int k1] sz ((a0, .inr (9, [g5, g6, g7, .ref a2, g8, g9, g10, g11, g12, g13, g14, g15, g16, g17, g18, g19, g20, g21, g22, g23, g24, g25, g26, g27, g28, g29, g30, g31, g32, g33])) :: bX11 a2 uq kq q_q []) (tX11 kq ([])) (fun (r : Int32) _ => r = out) 0 0 := by
  refine Met.ofW (cc := cX12_fathomsOf) (maxL := 2) (ret := (some .int)) (by decide) rfl ?_
  intro p e s m args below meth c s₁ B0 hml hv
  obtain ⟨rfl, hsz, hP, hK, hD0, hN⟩ := hv
  have hx := B0.exec
  have hb := B0.bytes
  have hr := B0.returns
  have hts := atoms_spec (ws := vfX12_fathomsOf) B0.pre
  have hown : s.vm.findClass RX12 = some m.cls := findClass_of_methodNamed B0.named
  have hlocks := B0.notSynchronized
  subst hsz
  have hD := hD0.self (sz := s.heap.size)
  generalize hAe : va_A ((a0, .inr (9, [g5, g6, g7, .ref a2, g8, g9, g10, g11, g12, g13, g14, g15, g16, g17, g18, g19, g20, g21, g22, g23, g24, g25, g26, g27, g28, g29, g30, g31, g32, g33])) :: bX11 a2 uq kq q_q []) s.heap.size = A at hD ⊢
  have hA : ∀ q : Nat, s.heap.size ≤ q → A q := fun q h => by rw [← hAe]; exact Or.inr h
  have hS : va_S A s.heap s.heap [] := va_S.rf
  have hP : va_P (dC, dI) vwCl ((a0, .inr (9, [g5, g6, g7, .ref a2, g8, g9, g10, g11, g12, g13, g14, g15, g16, g17, g18, g19, g20, g21, g22, g23, g24, g25, g26, g27, g28, g29, g30, g31, g32, g33])) :: bX11 a2 uq kq q_q []) s.heap := hP
  have hl := lv_entry ([.ref a0, .int k1]) (n := 2) (Nat.le_of_ble_eq_true rfl)
  rw [lg_entry_eq]
  generalize (lg_sl ([.ref a0, .int k1]) ++ List.replicate (2 - (lg_sl ([.ref a0, .int k1])).length) Slot.unset).toArray = ls at hl ⊢
  have hl : lv_has ls 2 [(0, .ref a0), (1, .int k1)] := hl
  refine W_q (fun QQ hQQ => ?_)
  rw [f_X12_fathomsOf] at h
  refine lv_iload_n hx hb (zat zrX12_fathomsOf_0_ok 0 rfl) rfl (lv_at hl 1 rfl) ?_
  refine lv_aload_n hx hb (zat zrX12_fathomsOf_0_ok 1 rfl) rfl (lv_at hl 0 rfl) ?_
  refine va_get (D := (dC, dI)) (ci := 9) (v := .ref a2) (C := RX12) (T := TX12) (N := 30) hx hb hts ifX12_fathomsOf_X12 hown hK hP 0 rfl rfl 3 (by decide) (hts (.fieldLink RX12 299 "HookPierModel" "pier" "LHookPierModel$Pier;") (List.mem_of_getElem? (i := 1) rfl)) (fun _ h9 => h9) rfl (zat zrX12_fathomsOf_0_ok 2 rfl) ?_
  refine va_getN (D := (dC, dI)) (ci := 8) (v := .int q_q.2.2.2.2.1) (C := RX11) (T := TX11) (N := 24) hx hb hts ifX12_fathomsOf_X11 hown hK hP 1 rfl rfl 4 (by decide) (va_Nw.use rfl (hN.1 (.fieldLinkNest RX12 175 "HookPierModel$Pier" "baits" "I" "HookPierModel") (List.mem_of_getElem? (i := 26) rfl))) (fun _ h9 => h9) rfl (zat zrX12_fathomsOf_0_ok 3 rfl) ?_
  obtain ⟨hg8, h⟩ := gZi_of h
  refine lv_idiv hx hb (zat zrX12_fathomsOf_0_ok 4 rfl) hg8 ?_
  refine lv_aload_n hx hb (zat zrX12_fathomsOf_0_ok 5 rfl) rfl (lv_at hl 0 rfl) ?_
  refine va_get (D := (dC, dI)) (ci := 9) (v := .ref a2) (C := RX12) (T := TX12) (N := 30) hx hb hts ifX12_fathomsOf_X12 hown hK hP 0 rfl rfl 3 (by decide) (hts (.fieldLink RX12 299 "HookPierModel" "pier" "LHookPierModel$Pier;") (List.mem_of_getElem? (i := 1) rfl)) (fun _ h9 => h9) rfl (zat zrX12_fathomsOf_0_ok 6 rfl) ?_
  refine va_getN (D := (dC, dI)) (ci := 8) (v := .int q_q.2.1) (C := RX11) (T := TX11) (N := 24) hx hb hts ifX12_fathomsOf_X11 hown hK hP 1 rfl rfl 1 (by decide) (va_Nw.use rfl (hN.1 (.fieldLinkNest RX12 207 "HookPierModel$Pier" "deep" "I" "HookPierModel") (List.mem_of_getElem? (i := 23) rfl))) (fun _ h9 => h9) rfl (zat zrX12_fathomsOf_0_ok 7 rfl) ?_
  obtain ⟨hg16, h⟩ := gZi_of h
  refine lv_irem hx hb (zat zrX12_fathomsOf_0_ok 8 rfl) hg16 ?_
  refine lv_topi (fun z16 ez16 => ?_)
  have h := nm_of h z16 ez16
  refine lv_iconst (v := 1) hx hb (zat zrX12_fathomsOf_0_ok 9 rfl) (by decide) ?_
  refine lv_iadd hx hb (zat zrX12_fathomsOf_0_ok 10 rfl) ?_
  obtain rfl := Option.some.inj h
  obtain ⟨hP9, hD9⟩ := pd_sub ((a0, .inr (9, [g5, g6, g7, .ref a2, g8, g9, g10, g11, g12, g13, g14, g15, g16, g17, g18, g19, g20, g21, g22, g23, g24, g25, g26, g27, g28, g29, g30, g31, g32, g33])) :: bX11 a2 uq kq q_q []) [0, 1, 2, 3, 4, 5, 6, 7, 8, 9, 10, 11, 12, 13, 14, 15] hP hD (by decide) rfl
  have hK9 := hK.sub (tys' := []) [] rfl
  rw [hQQ]
  exact W.iret (v := (z16 + (1 : Int32))) hx hb hr (fun t ht hW => ⟨⟨(z16 + (1 : Int32)), (), rfl, rfl, by rw [ht]; exact hP9, va_K.moved hW.alike hK9, hD9⟩, hS.F ht⟩) hS.2.2 (zat zrX12_fathomsOf_0_ok 11 rfl)
noncomputable def zrX12_baitOf_0 : List ZR := zc 0 true (.iload_n 1) 1 (zc 1 true (.aload_n 0) 1 (zc 2 true (.getfield 299) 3 (zc 5 true (.getfield 175) 3 (zc 8 true (.irem) 1 (zc 9 true (.ireturn) 1 ([]))))))
theorem zrX12_baitOf_0_ok : zck 0 ((zby cX12_baitOf).drop 0) zrX12_baitOf_0 = true := by decide +kernel
def vfX12_baitOf : List Cond := List.cons (.code yX12_baitOf cX12_baitOf 2 (some .int)) (apW [.fieldLink RX12 299 "HookPierModel" "pier" "LHookPierModel$Pier;"] (apW wsX120 (wsX110)))
theorem ifX12_baitOf_X12 : ∀ w ∈ wsX120, w ∈ vfX12_baitOf := fun _ h => (List.mem_cons_of_mem _ (List.mem_append_right _ (List.mem_append_left _ h)))
theorem ifX12_baitOf_X11 : ∀ w ∈ wsX110, w ∈ vfX12_baitOf := fun _ h => (List.mem_cons_of_mem _ (List.mem_append_right _ (List.mem_append_right _ h)))
theorem qfX12_baitOf : Good vfX12_baitOf := gd_cons (by decide +kernel) (gd_app (gd_dec (by decide +kernel) : Good [.fieldLink RX12 299 "HookPierModel" "pier" "LHookPierModel$Pier;"]) (gd_app qsX12 qsX11))
set_option maxHeartbeats 2000000 in
set_option maxRecDepth 100000 in
theorem kfX12_baitOf (l : Launch) (dC : Nat → ClassId) (dI : Nat → Nat → Nat) (a0 : Nat) (k1 : Int32) (a2 : Nat) (uq : Nat → Nat) (kq : Nat → ClassId) (g5 : Value) (g6 : Value) (g7 : Value) (g8 : Value) (g9 : Value) (g10 : Value) (g11 : Value) (g12 : Value) (g13 : Value) (g14 : Value) (g15 : Value) (g16 : Value) (g17 : Value) (g18 : Value) (g19 : Value) (g20 : Value) (g21 : Value) (g22 : Value) (g23 : Value) (g24 : Value) (g25 : Value) (g26 : Value) (g27 : Value) (g28 : Value) (g29 : Value) (g30 : Value) (g31 : Value) (g32 : Value) (g33 : Value) (q_q : TX11_q) (sz : Nat) (out : Int32) (h : f_X12_baitOf k1 q_q = some out) : KDi l yX12_baitOf vfX12_baitOf ({ frames := 0, cells := 0, slots := 0, locals := 0 }) (dC, dI) [.ref a0, .int k1] sz ((a0, .inr (9, [g5, g6, g7, .ref a2, g8, g9, g10, g11, g12, g13, g14, g15, g16, g17, g18, g19, g20, g21, g22, g23, g24, g25, g26, g27, g28, g29, g30, g31, g32, g33])) :: bX11 a2 uq kq q_q []) (tX11 kq ([])) (fun (r : Int32) _ => r = out) 0 0 := by
  refine Met.ofW (cc := cX12_baitOf) (maxL := 2) (ret := (some .int)) (by decide) rfl ?_
  intro p e s m args below meth c s₁ B0 hml hv
  obtain ⟨rfl, hsz, hP, hK, hD0, hN⟩ := hv
  have hx := B0.exec
  have hb := B0.bytes
  have hr := B0.returns
  have hts := atoms_spec (ws := vfX12_baitOf) B0.pre
  have hown : s.vm.findClass RX12 = some m.cls := findClass_of_methodNamed B0.named
  have hlocks := B0.notSynchronized
  subst hsz
  have hD := hD0.self (sz := s.heap.size)
  generalize hAe : va_A ((a0, .inr (9, [g5, g6, g7, .ref a2, g8, g9, g10, g11, g12, g13, g14, g15, g16, g17, g18, g19, g20, g21, g22, g23, g24, g25, g26, g27, g28, g29, g30, g31, g32, g33])) :: bX11 a2 uq kq q_q []) s.heap.size = A at hD ⊢
  have hA : ∀ q : Nat, s.heap.size ≤ q → A q := fun q h => by rw [← hAe]; exact Or.inr h
  have hS : va_S A s.heap s.heap [] := va_S.rf
  have hP : va_P (dC, dI) vwCl ((a0, .inr (9, [g5, g6, g7, .ref a2, g8, g9, g10, g11, g12, g13, g14, g15, g16, g17, g18, g19, g20, g21, g22, g23, g24, g25, g26, g27, g28, g29, g30, g31, g32, g33])) :: bX11 a2 uq kq q_q []) s.heap := hP
  have hl := lv_entry ([.ref a0, .int k1]) (n := 2) (Nat.le_of_ble_eq_true rfl)
  rw [lg_entry_eq]
  generalize (lg_sl ([.ref a0, .int k1]) ++ List.replicate (2 - (lg_sl ([.ref a0, .int k1])).length) Slot.unset).toArray = ls at hl ⊢
  have hl : lv_has ls 2 [(0, .ref a0), (1, .int k1)] := hl
  refine W_q (fun QQ hQQ => ?_)
  rw [f_X12_baitOf] at h
  refine lv_iload_n hx hb (zat zrX12_baitOf_0_ok 0 rfl) rfl (lv_at hl 1 rfl) ?_
  refine lv_aload_n hx hb (zat zrX12_baitOf_0_ok 1 rfl) rfl (lv_at hl 0 rfl) ?_
  refine va_get (D := (dC, dI)) (ci := 9) (v := .ref a2) (C := RX12) (T := TX12) (N := 30) hx hb hts ifX12_baitOf_X12 hown hK hP 0 rfl rfl 3 (by decide) (hts (.fieldLink RX12 299 "HookPierModel" "pier" "LHookPierModel$Pier;") (List.mem_of_getElem? (i := 1) rfl)) (fun _ h9 => h9) rfl (zat zrX12_baitOf_0_ok 2 rfl) ?_
  refine va_getN (D := (dC, dI)) (ci := 8) (v := .int q_q.2.2.2.2.1) (C := RX11) (T := TX11) (N := 24) hx hb hts ifX12_baitOf_X11 hown hK hP 1 rfl rfl 4 (by decide) (va_Nw.use rfl (hN.1 (.fieldLinkNest RX12 175 "HookPierModel$Pier" "baits" "I" "HookPierModel") (List.mem_of_getElem? (i := 26) rfl))) (fun _ h9 => h9) rfl (zat zrX12_baitOf_0_ok 3 rfl) ?_
  obtain ⟨hg8, h⟩ := gZi_of h
  refine lv_irem hx hb (zat zrX12_baitOf_0_ok 4 rfl) hg8 ?_
  obtain rfl := Option.some.inj h
  obtain ⟨hP9, hD9⟩ := pd_sub ((a0, .inr (9, [g5, g6, g7, .ref a2, g8, g9, g10, g11, g12, g13, g14, g15, g16, g17, g18, g19, g20, g21, g22, g23, g24, g25, g26, g27, g28, g29, g30, g31, g32, g33])) :: bX11 a2 uq kq q_q []) [0, 1, 2, 3, 4, 5, 6, 7, 8, 9, 10, 11, 12, 13, 14, 15] hP hD (by decide) rfl
  have hK9 := hK.sub (tys' := []) [] rfl
  rw [hQQ]
  exact W.iret (v := (k1 - k1 / q_q.2.2.2.2.1 * q_q.2.2.2.2.1)) hx hb hr (fun t ht hW => ⟨⟨(k1 - k1 / q_q.2.2.2.2.1 * q_q.2.2.2.2.1), (), rfl, rfl, by rw [ht]; exact hP9, va_K.moved hW.alike hK9, hD9⟩, hS.F ht⟩) hS.2.2 (zat zrX12_baitOf_0_ok 5 rfl)
noncomputable def zrX11_cut_0 : List ZR := zc 0 true (.iload_n 0) 1 (zc 1 true (.ifCond .ge 7) 3 (zc 4 true (.iconst 0) 1 (zc 5 true (.goto 15) 3 (zc 8 true (.iload_n 0) 1 (zc 9 true (.bipush 100) 2 (zc 11 true (.if_icmp .le 8) 3 (zc 14 true (.bipush 100) 2 (zc 16 true (.goto 4) 3 (zc 19 true (.iload_n 0) 1 (zc 20 true (.ireturn) 1 ([])))))))))))
theorem zrX11_cut_0_ok : zck 0 ((zby cX11_cut).drop 0) zrX11_cut_0 = true := by decide +kernel
def vfX11_cut : List Cond := .code yX11_cut cX11_cut 1 (some .int) :: ([])
theorem qfX11_cut : Good vfX11_cut := gd_cons (by decide +kernel) (gd_dec (by decide +kernel) : Good [])
set_option maxHeartbeats 2000000 in
set_option maxRecDepth 100000 in
theorem kfX11_cut (l : Launch) (dC : Nat → ClassId) (dI : Nat → Nat → Nat) (k0 : Int32) (sz : Nat) (out : Int32) (h : f_X11_cut k0 = out) : KDi l yX11_cut vfX11_cut ({ frames := 0, cells := 0, slots := 0, locals := 0 }) (dC, dI) [.int k0] sz [] ([]) (fun (r : Int32) _ => r = out) 0 0 := by
  refine Met.ofW (cc := cX11_cut) (maxL := 1) (ret := (some .int)) (by decide) rfl ?_
  intro p e s m args below meth c s₁ B0 hml hv
  obtain ⟨rfl, hsz, hP, hK, hD0, hN⟩ := hv
  have hx := B0.exec
  have hb := B0.bytes
  have hr := B0.returns
  have hts := atoms_spec (ws := vfX11_cut) B0.pre
  have hown : s.vm.findClass RX11 = some m.cls := findClass_of_methodNamed B0.named
  have hlocks := B0.notSynchronized
  subst hsz
  have hD := hD0.self (sz := s.heap.size)
  generalize hAe : va_A [] s.heap.size = A at hD ⊢
  have hA : ∀ q : Nat, s.heap.size ≤ q → A q := fun q h => by rw [← hAe]; exact Or.inr h
  have hS : va_S A s.heap s.heap [] := va_S.rf
  have hP : va_P (dC, dI) vwCl [] s.heap := hP
  have hl := lv_entry ([.int k0]) (n := 1) (Nat.le_of_ble_eq_true rfl)
  rw [lg_entry_eq]
  generalize (lg_sl ([.int k0]) ++ List.replicate (1 - (lg_sl ([.int k0])).length) Slot.unset).toArray = ls at hl ⊢
  have hl : lv_has ls 1 [(0, .int k0)] := hl
  refine W_q (fun QQ hQQ => ?_)
  rw [f_X11_cut] at h
  refine lv_iload_n hx hb (zat zrX11_cut_0_ok 0 rfl) rfl (lv_at hl 0 rfl) ?_
  refine lv_if_ge (tgt := 8) hx hb (zat zrX11_cut_0_ok 1 rfl) (by decide) (fun c1 => ?_) (fun c1 => ?_)
  · have h := (if_pos c1).symm.trans h
    refine lv_iload_n hx hb (zat zrX11_cut_0_ok 4 rfl) rfl (lv_at hl 0 rfl) ?_
    refine lv_bipush (v := 100) hx hb (zat zrX11_cut_0_ok 5 rfl) (by decide) ?_
    refine lv_icmp_le (tgt := 19) hx hb (zat zrX11_cut_0_ok 6 rfl) (by decide) (fun c11 => ?_) (fun c11 => ?_)
    · have h := (if_pos c11).symm.trans h
      refine lv_iload_n hx hb (zat zrX11_cut_0_ok 9 rfl) rfl (lv_at hl 0 rfl) ?_
      obtain rfl := h
      obtain ⟨hP9, hD9⟩ := pd_sub [] [] hP hD (by decide) rfl
      have hK9 := hK.sub (tys' := []) [] rfl
      rw [hQQ]
      exact W.iret (v := k0) hx hb hr (fun t ht hW => ⟨⟨k0, (), rfl, rfl, by rw [ht]; exact hP9, va_K.moved hW.alike hK9, hD9⟩, hS.F ht⟩) hS.2.2 (zat zrX11_cut_0_ok 10 rfl)
    · have h := (if_neg c11).symm.trans h
      refine lv_bipush (v := 100) hx hb (zat zrX11_cut_0_ok 7 rfl) (by decide) ?_
      refine lv_goto (tgt := 20) hx hb (zat zrX11_cut_0_ok 8 rfl) (by decide) ?_
      obtain rfl := h
      obtain ⟨hP9, hD9⟩ := pd_sub [] [] hP hD (by decide) rfl
      have hK9 := hK.sub (tys' := []) [] rfl
      rw [hQQ]
      exact W.iret (v := (100 : Int32)) hx hb hr (fun t ht hW => ⟨⟨(100 : Int32), (), rfl, rfl, by rw [ht]; exact hP9, va_K.moved hW.alike hK9, hD9⟩, hS.F ht⟩) hS.2.2 (zat zrX11_cut_0_ok 10 rfl)
  · have h := (if_neg c1).symm.trans h
    refine lv_iconst (v := 0) hx hb (zat zrX11_cut_0_ok 2 rfl) (by decide) ?_
    refine lv_goto (tgt := 20) hx hb (zat zrX11_cut_0_ok 3 rfl) (by decide) ?_
    obtain rfl := h
    obtain ⟨hP9, hD9⟩ := pd_sub [] [] hP hD (by decide) rfl
    have hK9 := hK.sub (tys' := []) [] rfl
    rw [hQQ]
    exact W.iret (v := (0 : Int32)) hx hb hr (fun t ht hW => ⟨⟨(0 : Int32), (), rfl, rfl, by rw [ht]; exact hP9, va_K.moved hW.alike hK9, hD9⟩, hS.F ht⟩) hS.2.2 (zat zrX11_cut_0_ok 10 rfl)
noncomputable def zrX11_wishBy_0 : List ZR := zc 0 true (.iload_n 1) 1 (zc 1 true (.aload_n 0) 1 (zc 2 true (.getfield 19) 3 (zc 5 true (.iload_n 2) 1 (zc 6 true (.iaload) 1 (zc 7 true (.iconst 3) 1 (zc 8 true (.if_icmp .ne 8) 3 (zc 11 true (.bipush (-20)) 2 (zc 13 true (.goto 20) 3 (zc 16 true (.aload_n 0) 1 (zc 17 true (.getfield 31) 3 (zc 20 true (.iload_n 2) 1 (zc 21 true (.iaload) 1 (zc 22 true (.iload 5) 2 (zc 24 true (.if_icmp .ne 8) 3 (zc 27 true (.bipush 20) 2 (zc 29 true (.goto 4) 3 (zc 32 true (.iconst 0) 1 (zc 33 true (.iadd) 1 (zc 34 true (.bipush 10) 2 (zc 36 true (.aload_n 0) 1 (zc 37 true (.getfield 22) 3 (zc 40 true (.iload_n 2) 1 (zc 41 true (.iaload) 1 (zc 42 true (.iload_n 3) 1 (zc 43 true (.invokestatic 66) 3 (zc 46 true (.imul) 1 (zc 47 true (.isub) 1 (zc 48 true (.istore 6) 2 (zc 50 true (.aload_n 0) 1 (zc 51 true (.getfield 19) 3 (zc 54 true (.iload_n 2) 1 (zc 55 true (.iaload) 1 (zc 56 true (.iconst 2) 1 (zc 57 true (.if_icmp .ne 8) 3 (zc 60 true (.iload 6) 2 (zc 62 true (.goto 20) 3 (zc 65 true (.iload 6) 2 (zc 67 true (.bipush 8) 2 (zc 69 true (.aload_n 0) 1 (zc 70 true (.getfield 25) 3 (zc 73 true (.iload_n 2) 1 (zc 74 true (.iaload) 1 (zc 75 true (.iload 4) 2 (zc 77 true (.invokestatic 66) 3 (zc 80 true (.imul) 1 (zc 81 true (.isub) 1 (zc 82 true (.invokestatic 70) 3 (zc 85 true (.ireturn) 1 ([])))))))))))))))))))))))))))))))))))))))))))))))))
theorem zrX11_wishBy_0_ok : zck 0 ((zby cX11_wishBy).drop 0) zrX11_wishBy_0 = true := by decide +kernel
def vfX11_wishBy : List Cond := List.cons (.code yX11_wishBy cX11_wishBy 7 (some .int)) (apW [.fieldLink RX11 19 "HookPierModel$Pier" "kind" "[I", .fieldLink RX11 22 "HookPierModel$Pier" "spot" "[I", .initialized RX12, .static yX12_apart, .methodLink RX11 70 yX11_cut, .static yX11_cut, .initialized RX11, .fieldLink RX11 25 "HookPierModel$Pier" "depth" "[I", .fieldLink RX11 31 "HookPierModel$Pier" "likes" "[I"] (apW wsX110 (apW vfX12_apart (vfX11_cut))))
theorem ifX11_wishBy_X11 : ∀ w ∈ wsX110, w ∈ vfX11_wishBy := fun _ h => (List.mem_cons_of_mem _ (List.mem_append_right _ (List.mem_append_left _ h)))
theorem qfX11_wishBy : Good vfX11_wishBy := gd_cons (by decide +kernel) (gd_app (gd_dec (by decide +kernel) : Good [.fieldLink RX11 19 "HookPierModel$Pier" "kind" "[I", .fieldLink RX11 22 "HookPierModel$Pier" "spot" "[I", .initialized RX12, .static yX12_apart, .methodLink RX11 70 yX11_cut, .static yX11_cut, .initialized RX11, .fieldLink RX11 25 "HookPierModel$Pier" "depth" "[I", .fieldLink RX11 31 "HookPierModel$Pier" "likes" "[I"]) (gd_app qsX11 (gd_app qfX12_apart qfX11_cut)))
theorem gfX11_wishBy_0 : GoodIn vfX11_wishBy vfX12_apart := (goodIn_m (fun _ h => (List.mem_cons_of_mem _ (List.mem_append_right _ (List.mem_append_right _ (List.mem_append_left _ h))))) qfX12_apart)
theorem gfX11_wishBy_1 : GoodIn vfX11_wishBy (va_wsS RX11 70 yX11_cut vfX11_cut) := goodIn_app (goodIn_r [.methodLink RX11 70 yX11_cut, .static yX11_cut, .initialized RX11] [5, 6, 7] rfl (by decide +kernel)) (goodIn_m (fun _ h => (List.mem_cons_of_mem _ (List.mem_append_right _ (List.mem_append_right _ (List.mem_append_right _ h))))) qfX11_cut)
set_option maxHeartbeats 2000000 in
set_option maxRecDepth 100000 in
theorem kfX11_wishBy (l : Launch) (dC : Nat → ClassId) (dI : Nat → Nat → Nat) (a0 : Nat) (k1 : Int32) (k2 : Int32) (k3 : Int32) (k4 : Int32) (k5 : Int32) (uq : Nat → Nat) (kq : Nat → ClassId) (q_q : TX11_q) (sz : Nat) (out : Int32) (h : f_X11_wishBy k1 k2 k3 k4 k5 q_q = some out) : KDi l yX11_wishBy vfX11_wishBy ({ frames := 1, cells := 0, slots := 0, locals := 21 }) (dC, dI) [.ref a0, .int k1, .int k2, .int k3, .int k4, .int k5] sz (bX11 a0 uq kq q_q []) (tX11 kq ([])) (fun (r : Int32) _ => r = out) 0 0 := by
  refine Met.ofW (cc := cX11_wishBy) (maxL := 7) (ret := (some .int)) (by decide) rfl ?_
  intro p e s m args below meth c s₁ B0 hml hv
  obtain ⟨rfl, hsz, hP, hK, hD0, hN⟩ := hv
  have hx := B0.exec
  have hb := B0.bytes
  have hr := B0.returns
  have hts := atoms_spec (ws := vfX11_wishBy) B0.pre
  have hown : s.vm.findClass RX11 = some m.cls := findClass_of_methodNamed B0.named
  have hlocks := B0.notSynchronized
  subst hsz
  have hD := hD0.self (sz := s.heap.size)
  generalize hAe : va_A (bX11 a0 uq kq q_q []) s.heap.size = A at hD ⊢
  have hA : ∀ q : Nat, s.heap.size ≤ q → A q := fun q h => by rw [← hAe]; exact Or.inr h
  have hS : va_S A s.heap s.heap [] := va_S.rf
  have hP : va_P (dC, dI) vwCl (bX11 a0 uq kq q_q []) s.heap := hP
  have hl := lv_entry ([.ref a0, .int k1, .int k2, .int k3, .int k4, .int k5]) (n := 7) (Nat.le_of_ble_eq_true rfl)
  rw [lg_entry_eq]
  generalize (lg_sl ([.ref a0, .int k1, .int k2, .int k3, .int k4, .int k5]) ++ List.replicate (7 - (lg_sl ([.ref a0, .int k1, .int k2, .int k3, .int k4, .int k5])).length) Slot.unset).toArray = ls at hl ⊢
  have hl : lv_has ls 7 [(0, .ref a0), (1, .int k1), (2, .int k2), (3, .int k3), (4, .int k4), (5, .int k5)] := hl
  refine W_q (fun QQ hQQ => ?_)
  rw [f_X11_wishBy] at h
  refine lv_iload_n hx hb (zat zrX11_wishBy_0_ok 0 rfl) rfl (lv_at hl 1 rfl) ?_
  refine lv_aload_n hx hb (zat zrX11_wishBy_0_ok 1 rfl) rfl (lv_at hl 0 rfl) ?_
  refine va_get (D := (dC, dI)) (ci := 8) (v := .ref (uq 1)) (C := RX11) (T := TX11) (N := 24) hx hb hts ifX11_wishBy_X11 hown hK hP 0 rfl rfl 11 (by decide) (hts (.fieldLink RX11 19 "HookPierModel$Pier" "kind" "[I") (List.mem_of_getElem? (i := 1) rfl)) (fun _ h9 => h9) rfl (zat zrX11_wishBy_0_ok 2 rfl) ?_
  refine lv_iload_n hx hb (zat zrX11_wishBy_0_ok 3 rfl) rfl (lv_at hl 2 rfl) ?_
  obtain ⟨hg6, h⟩ := gA_of h
  refine va_iald hx hb hK hP 2 1 rfl rfl hg6 (zat zrX11_wishBy_0_ok 4 rfl) ?_
  refine lv_iconst (v := 3) hx hb (zat zrX11_wishBy_0_ok 5 rfl) (by decide) ?_
  have J33 : ∀ (v33_t1 : Int32) (H : Heap) (locs : List Loc) (ls : Array Slot), f_X11_wishBy_J33 k1 k2 k3 k4 q_q v33_t1 = some out → va_P (dC, dI) vwCl (bX11 a0 uq kq q_q []) H → va_D A (bX11 a0 uq kq q_q []) → va_S A s.heap H locs → lv_has ls 7 [(0, .ref a0), (2, .int k2), (3, .int k3), (4, .int k4)] → W p l e (headSpec vfX11_wishBy { frames := 1, cells := 0, slots := 0, locals := 21 }).room s m ([.ref a0, .int k1, .int k2, .int k3, .int k4, .int k5]).toArray below meth c H locs 0 0 QQ (F0 m 33 ls [.int v33_t1, .int k1]) := by
    intro v33_t1 H locs ls h  hP hD hS hl
    rw [f_X11_wishBy_J33] at h
    refine lv_iadd hx hb (zat zrX11_wishBy_0_ok 18 rfl) ?_
    refine lv_bipush (v := 10) hx hb (zat zrX11_wishBy_0_ok 19 rfl) (by decide) ?_
    refine lv_aload_n hx hb (zat zrX11_wishBy_0_ok 20 rfl) rfl (lv_at hl 0 rfl) ?_
    refine va_get (D := (dC, dI)) (ci := 8) (v := .ref (uq 2)) (C := RX11) (T := TX11) (N := 24) hx hb hts ifX11_wishBy_X11 hown hK hP 0 rfl rfl 12 (by decide) (hts (.fieldLink RX11 22 "HookPierModel$Pier" "spot" "[I") (List.mem_of_getElem? (i := 2) rfl)) (fun _ h9 => h9) rfl (zat zrX11_wishBy_0_ok 21 rfl) ?_
    refine lv_iload_n hx hb (zat zrX11_wishBy_0_ok 22 rfl) rfl (lv_at hl 1 rfl) ?_
    obtain ⟨hg41, h⟩ := gA_of h
    refine va_iald hx hb hK hP 3 2 rfl rfl hg41 (zat zrX11_wishBy_0_ok 23 rfl) ?_
    refine lv_iload_n hx hb (zat zrX11_wishBy_0_ok 24 rfl) rfl (lv_at hl 2 rfl) ?_
    obtain ⟨o43, eo43⟩ : ∃ o, o = f_X12_apart (q_q.2.2.2.2.2.2.2.2.2.2.2.2.1 (k2).toNatClampNeg) k3 := ⟨_, rfl⟩
    have h := nm_of h o43 eo43
    refine ck_i (wc := []) (wr := (bX11 a0 uq kq q_q [])) hP hD hK hS hA [] [0, 1, 2, 3, 4, 5, 6, 7, 8, 9, 10, 11, 12, 13, 14] rfl rfl (by decide) (by decide) (by decide) (fun hPc hDc => (va_runSN (As := [.int (q_q.2.2.2.2.2.2.2.2.2.2.2.2.1 (k2).toNatClampNeg), .int k3]) (rest := [.int 10, .int (k1 + v33_t1)]) ⟨hx, hb, hml, hown, hts⟩ (kfX12_apart l dC dI (q_q.2.2.2.2.2.2.2.2.2.2.2.2.1 (k2).toNatClampNeg) k3 H.size o43 eo43.symm) ⟨va_cnB 2 hts gfX11_wishBy_0 rfl rfl rfl (hN.1 (.methodLinkNest RX11 66 yX12_apart "HookPierModel") (List.mem_of_getElem? (i := 21) rfl)) (hts (.initialized RX12) (List.mem_of_getElem? (i := 3) rfl)) (by decide +kernel) ⟨(Nat.le_of_ble_eq_true rfl), (Nat.le_of_ble_eq_true rfl)⟩, (hts (.static yX12_apart) (List.mem_of_getElem? (i := 4) rfl)), trivial⟩ (PS hPc (hK.sub (tys' := ([])) [] rfl) hDc hN) rfl rfl hl.1 rfl (lv_room (Nat.le_of_ble_eq_true rfl)) (zat zrX11_wishBy_0_ok 25 rfl) ⟨(Nat.le_of_ble_eq_true rfl), (Nat.le_of_ble_eq_true rfl)⟩)) (fun r43 _ H locs hw hP hD _ hS => ?_)
    obtain rfl := hw.symm
    obtain ⟨hP, hD⟩ := pd_mk (bX11 a0 uq kq q_q []) hP hD
    refine lv_imul hx hb (zat zrX11_wishBy_0_ok 26 rfl) ?_
    refine lv_isub hx hb (zat zrX11_wishBy_0_ok 27 rfl) ?_
    refine lv_istore (lv' := [(6, .int ((k1 + v33_t1) - ((10 : Int32) * o43))), (0, .ref a0), (2, .int k2), (3, .int k3), (4, .int k4)]) hx hb (zat zrX11_wishBy_0_ok 28 rfl) hl (by decide) rfl (fun ls hl => ?_)
    refine lv_aload_n hx hb (zat zrX11_wishBy_0_ok 29 rfl) rfl (lv_at hl 1 rfl) ?_
    refine va_get (D := (dC, dI)) (ci := 8) (v := .ref (uq 1)) (C := RX11) (T := TX11) (N := 24) hx hb hts ifX11_wishBy_X11 hown hK hP 0 rfl rfl 11 (by decide) (hts (.fieldLink RX11 19 "HookPierModel$Pier" "kind" "[I") (List.mem_of_getElem? (i := 1) rfl)) (fun _ h9 => h9) rfl (zat zrX11_wishBy_0_ok 30 rfl) ?_
    refine lv_iload_n hx hb (zat zrX11_wishBy_0_ok 31 rfl) rfl (lv_at hl 2 rfl) ?_
    obtain ⟨hg55, h⟩ := gA_of h
    refine va_iald hx hb hK hP 2 1 rfl rfl hg55 (zat zrX11_wishBy_0_ok 32 rfl) ?_
    refine lv_iconst (v := 2) hx hb (zat zrX11_wishBy_0_ok 33 rfl) (by decide) ?_
    have J82 : ∀ (v82_t0 : Int32) (H : Heap) (locs : List Loc) (ls : Array Slot), f_X11_wishBy_J82 v82_t0 = some out → va_P (dC, dI) vwCl (bX11 a0 uq kq q_q []) H → va_D A (bX11 a0 uq kq q_q []) → va_S A s.heap H locs → lv_has ls 7 [] → W p l e (headSpec vfX11_wishBy { frames := 1, cells := 0, slots := 0, locals := 21 }).room s m ([.ref a0, .int k1, .int k2, .int k3, .int k4, .int k5]).toArray below meth c H locs 0 0 QQ (F0 m 82 ls [.int v82_t0]) := by
      intro v82_t0 H locs ls h  hP hD hS hl
      rw [f_X11_wishBy_J82] at h
      obtain ⟨o82, eo82⟩ : ∃ o, o = f_X11_cut v82_t0 := ⟨_, rfl⟩
      have h := nm_of h o82 eo82
      refine ck_i (wc := []) (wr := (bX11 a0 uq kq q_q [])) hP hD hK hS hA [] [0, 1, 2, 3, 4, 5, 6, 7, 8, 9, 10, 11, 12, 13, 14] rfl rfl (by decide) (by decide) (by decide) (fun hPc hDc => (va_runS (As := [.int v82_t0]) (rest := []) ⟨hx, hb, hml, hown, hts⟩ (kfX11_cut l dC dI v82_t0 H.size o82 eo82.symm) (va_cwS 1 hts gfX11_wishBy_1 rfl rfl rfl (by decide +kernel) ⟨(Nat.le_of_ble_eq_true rfl), (Nat.le_of_ble_eq_true rfl)⟩) (PS hPc (hK.sub (tys' := ([])) [] rfl) hDc hN) rfl rfl hl.1 rfl (lv_room (Nat.le_of_ble_eq_true rfl)) (zat zrX11_wishBy_0_ok 47 rfl) ⟨(Nat.le_of_ble_eq_true rfl), (Nat.le_of_ble_eq_true rfl)⟩)) (fun r82 _ H locs hw hP hD _ hS => ?_)
      obtain rfl := hw.symm
      obtain ⟨hP, hD⟩ := pd_mk (bX11 a0 uq kq q_q []) hP hD
      obtain rfl := Option.some.inj h
      obtain ⟨hP9, hD9⟩ := pd_sub (bX11 a0 uq kq q_q []) [0, 1, 2, 3, 4, 5, 6, 7, 8, 9, 10, 11, 12, 13, 14] hP hD (by decide) rfl
      have hK9 := hK.sub (tys' := []) [] rfl
      rw [hQQ]
      exact W.iret (v := o82) hx hb hr (fun t ht hW => ⟨⟨o82, (), rfl, rfl, by rw [ht]; exact hP9, va_K.moved hW.alike hK9, hD9⟩, hS.F ht⟩) hS.2.2 (zat zrX11_wishBy_0_ok 48 rfl)
    refine lv_icmp_ne (tgt := 65) hx hb (zat zrX11_wishBy_0_ok 34 rfl) (by decide) (fun c57 => ?_) (fun c57 => ?_)
    · have h := (if_neg c57).symm.trans h
      refine lv_iload hx hb (zat zrX11_wishBy_0_ok 37 rfl) (lv_at hl 0 rfl) ?_
      refine lv_bipush (v := 8) hx hb (zat zrX11_wishBy_0_ok 38 rfl) (by decide) ?_
      refine lv_aload_n hx hb (zat zrX11_wishBy_0_ok 39 rfl) rfl (lv_at hl 1 rfl) ?_
      refine va_get (D := (dC, dI)) (ci := 8) (v := .ref (uq 3)) (C := RX11) (T := TX11) (N := 24) hx hb hts ifX11_wishBy_X11 hown hK hP 0 rfl rfl 13 (by decide) (hts (.fieldLink RX11 25 "HookPierModel$Pier" "depth" "[I") (List.mem_of_getElem? (i := 8) rfl)) (fun _ h9 => h9) rfl (zat zrX11_wishBy_0_ok 40 rfl) ?_
      refine lv_iload_n hx hb (zat zrX11_wishBy_0_ok 41 rfl) rfl (lv_at hl 2 rfl) ?_
      obtain ⟨hg74, h⟩ := gA_of h
      refine va_iald hx hb hK hP 4 3 rfl rfl hg74 (zat zrX11_wishBy_0_ok 42 rfl) ?_
      refine lv_iload hx hb (zat zrX11_wishBy_0_ok 43 rfl) (lv_at hl 4 rfl) ?_
      obtain ⟨o77, eo77⟩ : ∃ o, o = f_X12_apart (q_q.2.2.2.2.2.2.2.2.2.2.2.2.2.1 (k2).toNatClampNeg) k4 := ⟨_, rfl⟩
      have h := nm_of h o77 eo77
      refine ck_i (wc := []) (wr := (bX11 a0 uq kq q_q [])) hP hD hK hS hA [] [0, 1, 2, 3, 4, 5, 6, 7, 8, 9, 10, 11, 12, 13, 14] rfl rfl (by decide) (by decide) (by decide) (fun hPc hDc => (va_runSN (As := [.int (q_q.2.2.2.2.2.2.2.2.2.2.2.2.2.1 (k2).toNatClampNeg), .int k4]) (rest := [.int 8, .int ((k1 + v33_t1) - ((10 : Int32) * o43))]) ⟨hx, hb, hml, hown, hts⟩ (kfX12_apart l dC dI (q_q.2.2.2.2.2.2.2.2.2.2.2.2.2.1 (k2).toNatClampNeg) k4 H.size o77 eo77.symm) ⟨va_cnB 2 hts gfX11_wishBy_0 rfl rfl rfl (hN.1 (.methodLinkNest RX11 66 yX12_apart "HookPierModel") (List.mem_of_getElem? (i := 21) rfl)) (hts (.initialized RX12) (List.mem_of_getElem? (i := 3) rfl)) (by decide +kernel) ⟨(Nat.le_of_ble_eq_true rfl), (Nat.le_of_ble_eq_true rfl)⟩, (hts (.static yX12_apart) (List.mem_of_getElem? (i := 4) rfl)), trivial⟩ (PS hPc (hK.sub (tys' := ([])) [] rfl) hDc hN) rfl rfl hl.1 rfl (lv_room (Nat.le_of_ble_eq_true rfl)) (zat zrX11_wishBy_0_ok 44 rfl) ⟨(Nat.le_of_ble_eq_true rfl), (Nat.le_of_ble_eq_true rfl)⟩)) (fun r77 _ H locs hw hP hD _ hS => ?_)
      obtain rfl := hw.symm
      obtain ⟨hP, hD⟩ := pd_mk (bX11 a0 uq kq q_q []) hP hD
      refine lv_imul hx hb (zat zrX11_wishBy_0_ok 45 rfl) ?_
      refine lv_isub hx hb (zat zrX11_wishBy_0_ok 46 rfl) ?_
      refine lv_topi (fun z81 ez81 => ?_)
      have h := nm_of h z81 ez81
      exact J82 z81 H _ ls h  hP hD hS (lv_sub hl [] rfl)
    · have h := (if_pos c57).symm.trans h
      refine lv_iload hx hb (zat zrX11_wishBy_0_ok 35 rfl) (lv_at hl 0 rfl) ?_
      refine lv_goto (tgt := 82) hx hb (zat zrX11_wishBy_0_ok 36 rfl) (by decide) ?_
      exact J82 ((k1 + v33_t1) - ((10 : Int32) * o43)) H _ ls h  hP hD hS (lv_sub hl [] rfl)
  refine lv_icmp_ne (tgt := 16) hx hb (zat zrX11_wishBy_0_ok 6 rfl) (by decide) (fun c8 => ?_) (fun c8 => ?_)
  · have h := (if_neg c8).symm.trans h
    refine lv_aload_n hx hb (zat zrX11_wishBy_0_ok 9 rfl) rfl (lv_at hl 0 rfl) ?_
    refine va_get (D := (dC, dI)) (ci := 8) (v := .ref (uq 5)) (C := RX11) (T := TX11) (N := 24) hx hb hts ifX11_wishBy_X11 hown hK hP 0 rfl rfl 15 (by decide) (hts (.fieldLink RX11 31 "HookPierModel$Pier" "likes" "[I") (List.mem_of_getElem? (i := 9) rfl)) (fun _ h9 => h9) rfl (zat zrX11_wishBy_0_ok 10 rfl) ?_
    refine lv_iload_n hx hb (zat zrX11_wishBy_0_ok 11 rfl) rfl (lv_at hl 2 rfl) ?_
    obtain ⟨hg21, h⟩ := gA_of h
    refine va_iald hx hb hK hP 6 5 rfl rfl hg21 (zat zrX11_wishBy_0_ok 12 rfl) ?_
    refine lv_iload hx hb (zat zrX11_wishBy_0_ok 13 rfl) (lv_at hl 5 rfl) ?_
    refine lv_icmp_ne (tgt := 32) hx hb (zat zrX11_wishBy_0_ok 14 rfl) (by decide) (fun c24 => ?_) (fun c24 => ?_)
    · have h := (if_neg c24).symm.trans h
      refine lv_iconst (v := 0) hx hb (zat zrX11_wishBy_0_ok 17 rfl) (by decide) ?_
      exact J33 (0 : Int32) s.heap _ ls h  hP hD hS (lv_sub hl [0, 2, 3, 4] rfl)
    · have h := (if_pos c24).symm.trans h
      refine lv_bipush (v := 20) hx hb (zat zrX11_wishBy_0_ok 15 rfl) (by decide) ?_
      refine lv_goto (tgt := 33) hx hb (zat zrX11_wishBy_0_ok 16 rfl) (by decide) ?_
      exact J33 (20 : Int32) s.heap _ ls h  hP hD hS (lv_sub hl [0, 2, 3, 4] rfl)
  · have h := (if_pos c8).symm.trans h
    refine lv_bipush (v := (-20)) hx hb (zat zrX11_wishBy_0_ok 7 rfl) (by decide) ?_
    refine lv_goto (tgt := 33) hx hb (zat zrX11_wishBy_0_ok 8 rfl) (by decide) ?_
    exact J33 (-20 : Int32) s.heap _ ls h  hP hD hS (lv_sub hl [0, 2, 3, 4] rfl)
noncomputable def zrX11_wish_0 : List ZR := zc 0 true (.aload_n 0) 1 (zc 1 true (.aload_n 0) 1 (zc 2 true (.getfield 28) 3 (zc 5 true (.iload_n 1) 1 (zc 6 true (.iaload) 1 (zc 7 true (.iload_n 1) 1 (zc 8 true (.iload_n 2) 1 (zc 9 true (.iload_n 3) 1 (zc 10 true (.iload 4) 2 (zc 12 true (.invokevirtual 62) 3 (zc 15 true (.ireturn) 1 ([])))))))))))
theorem zrX11_wish_0_ok : zck 0 ((zby cX11_wish).drop 0) zrX11_wish_0 = true := by decide +kernel
def vfX11_wish : List Cond := List.cons (.code yX11_wish cX11_wish 5 (some .int)) (apW [.fieldLink RX11 28 "HookPierModel$Pier" "hunger" "[I", .methodLink RX11 62 yX11_wishBy, .instanceMethod yX11_wishBy, .selects RX11 yX11_wishBy yX11_wishBy, .initialized RX11] (apW wsX110 (vfX11_wishBy)))
theorem ifX11_wish_X11 : ∀ w ∈ wsX110, w ∈ vfX11_wish := fun _ h => (List.mem_cons_of_mem _ (List.mem_append_right _ (List.mem_append_left _ h)))
theorem qfX11_wish : Good vfX11_wish := gd_cons (by decide +kernel) (gd_app (gd_dec (by decide +kernel) : Good [.fieldLink RX11 28 "HookPierModel$Pier" "hunger" "[I", .methodLink RX11 62 yX11_wishBy, .instanceMethod yX11_wishBy, .selects RX11 yX11_wishBy yX11_wishBy, .initialized RX11]) (gd_app qsX11 qfX11_wishBy))
theorem gfX11_wish_0 : GoodIn vfX11_wish (wsV RX11 62 RX11 yX11_wishBy vfX11_wishBy) := goodIn_app (goodIn_r [.methodLink RX11 62 yX11_wishBy, .instanceMethod yX11_wishBy, .selects RX11 yX11_wishBy yX11_wishBy, .initialized RX11] [2, 3, 4, 5] rfl (by decide +kernel)) (goodIn_m (fun _ h => (List.mem_cons_of_mem _ (List.mem_append_right _ (List.mem_append_right _ h)))) qfX11_wishBy)
set_option maxHeartbeats 2000000 in
set_option maxRecDepth 100000 in
theorem kfX11_wish (l : Launch) (dC : Nat → ClassId) (dI : Nat → Nat → Nat) (a0 : Nat) (k1 : Int32) (k2 : Int32) (k3 : Int32) (k4 : Int32) (uq : Nat → Nat) (kq : Nat → ClassId) (q_q : TX11_q) (sz : Nat) (out : Int32) (h : f_X11_wish k1 k2 k3 k4 q_q = some out) : KDi l yX11_wish vfX11_wish ({ frames := 2, cells := 0, slots := 0, locals := 47 }) (dC, dI) [.ref a0, .int k1, .int k2, .int k3, .int k4] sz (bX11 a0 uq kq q_q []) (tX11 kq ([])) (fun (r : Int32) _ => r = out) 0 0 := by
  refine Met.ofW (cc := cX11_wish) (maxL := 5) (ret := (some .int)) (by decide) rfl ?_
  intro p e s m args below meth c s₁ B0 hml hv
  obtain ⟨rfl, hsz, hP, hK, hD0, hN⟩ := hv
  have hx := B0.exec
  have hb := B0.bytes
  have hr := B0.returns
  have hts := atoms_spec (ws := vfX11_wish) B0.pre
  have hown : s.vm.findClass RX11 = some m.cls := findClass_of_methodNamed B0.named
  have hlocks := B0.notSynchronized
  subst hsz
  have hD := hD0.self (sz := s.heap.size)
  generalize hAe : va_A (bX11 a0 uq kq q_q []) s.heap.size = A at hD ⊢
  have hA : ∀ q : Nat, s.heap.size ≤ q → A q := fun q h => by rw [← hAe]; exact Or.inr h
  have hS : va_S A s.heap s.heap [] := va_S.rf
  have hP : va_P (dC, dI) vwCl (bX11 a0 uq kq q_q []) s.heap := hP
  have hl := lv_entry ([.ref a0, .int k1, .int k2, .int k3, .int k4]) (n := 5) (Nat.le_of_ble_eq_true rfl)
  rw [lg_entry_eq]
  generalize (lg_sl ([.ref a0, .int k1, .int k2, .int k3, .int k4]) ++ List.replicate (5 - (lg_sl ([.ref a0, .int k1, .int k2, .int k3, .int k4])).length) Slot.unset).toArray = ls at hl ⊢
  have hl : lv_has ls 5 [(0, .ref a0), (1, .int k1), (2, .int k2), (3, .int k3), (4, .int k4)] := hl
  refine W_q (fun QQ hQQ => ?_)
  rw [f_X11_wish] at h
  refine lv_aload_n hx hb (zat zrX11_wish_0_ok 0 rfl) rfl (lv_at hl 0 rfl) ?_
  refine lv_aload_n hx hb (zat zrX11_wish_0_ok 1 rfl) rfl (lv_at hl 0 rfl) ?_
  refine va_get (D := (dC, dI)) (ci := 8) (v := .ref (uq 4)) (C := RX11) (T := TX11) (N := 24) hx hb hts ifX11_wish_X11 hown hK hP 0 rfl rfl 14 (by decide) (hts (.fieldLink RX11 28 "HookPierModel$Pier" "hunger" "[I") (List.mem_of_getElem? (i := 1) rfl)) (fun _ h9 => h9) rfl (zat zrX11_wish_0_ok 2 rfl) ?_
  refine lv_iload_n hx hb (zat zrX11_wish_0_ok 3 rfl) rfl (lv_at hl 1 rfl) ?_
  obtain ⟨hg6, h⟩ := gA_of h
  refine va_iald hx hb hK hP 5 4 rfl rfl hg6 (zat zrX11_wish_0_ok 4 rfl) ?_
  refine lv_iload_n hx hb (zat zrX11_wish_0_ok 5 rfl) rfl (lv_at hl 1 rfl) ?_
  refine lv_iload_n hx hb (zat zrX11_wish_0_ok 6 rfl) rfl (lv_at hl 2 rfl) ?_
  refine lv_iload_n hx hb (zat zrX11_wish_0_ok 7 rfl) rfl (lv_at hl 3 rfl) ?_
  refine lv_iload hx hb (zat zrX11_wish_0_ok 8 rfl) (lv_at hl 4 rfl) ?_
  obtain ⟨o12, eo12, h⟩ := bd_of h
  refine ck_i (wc := (bX11 a0 uq kq q_q [])) (wr := []) hP hD hK hS hA [0, 1, 2, 3, 4, 5, 6, 7, 8, 9, 10, 11, 12, 13, 14] [] rfl rfl (by decide) (by decide) (by decide) (fun hPc hDc => (va_runV (As := [.int (q_q.2.2.2.2.2.2.2.2.2.2.2.2.2.2.1 (k1).toNatClampNeg), .int k1, .int k2, .int k3, .int k4]) (rest := []) ⟨hx, hb, hml, hown, hts⟩ (kfX11_wishBy l dC dI a0 (q_q.2.2.2.2.2.2.2.2.2.2.2.2.2.2.1 (k1).toNatClampNeg) k1 k2 k3 k4 uq kq q_q s.heap.size o12 eo12) (cwV 5 hts gfX11_wish_0 rfl rfl rfl (by decide +kernel) ⟨(Nat.le_of_ble_eq_true rfl), (Nat.le_of_ble_eq_true rfl)⟩) (PV hPc (hK.sub (tys' := (tX11 kq ([]))) [0, 1, 2, 3, 4, 5, 6, 7, 8, 9, 10, 11, 12, 13] rfl) hDc hN 0 rfl rfl) rfl rfl hl.1 rfl (lv_room (Nat.le_of_ble_eq_true rfl)) (zat zrX11_wish_0_ok 9 rfl) ⟨(Nat.le_of_ble_eq_true rfl), (Nat.le_of_ble_eq_true rfl)⟩)) (fun r12 _ H locs hw hP hD _ hS => ?_)
  obtain rfl := hw.symm
  obtain ⟨hP, hD⟩ := pd_mk (bX11 a0 uq kq q_q []) hP hD
  obtain rfl := Option.some.inj h
  obtain ⟨hP9, hD9⟩ := pd_sub (bX11 a0 uq kq q_q []) [0, 1, 2, 3, 4, 5, 6, 7, 8, 9, 10, 11, 12, 13, 14] hP hD (by decide) rfl
  have hK9 := hK.sub (tys' := []) [] rfl
  rw [hQQ]
  exact W.iret (v := o12) hx hb hr (fun t ht hW => ⟨⟨o12, (), rfl, rfl, by rw [ht]; exact hP9, va_K.moved hW.alike hK9, hD9⟩, hS.F ht⟩) hS.2.2 (zat zrX11_wish_0_ok 10 rfl)
noncomputable def zrX12_wishOf_0 : List ZR := zc 0 true (.aload_n 0) 1 (zc 1 true (.getfield 299) 3 (zc 4 true (.iload_n 1) 1 (zc 5 true (.aload_n 0) 1 (zc 6 true (.iload_n 2) 1 (zc 7 true (.invokevirtual 307) 3 (zc 10 true (.aload_n 0) 1 (zc 11 true (.iload_n 2) 1 (zc 12 true (.invokevirtual 310) 3 (zc 15 true (.aload_n 0) 1 (zc 16 true (.iload_n 2) 1 (zc 17 true (.invokevirtual 313) 3 (zc 20 true (.invokevirtual 316) 3 (zc 23 true (.ireturn) 1 ([]))))))))))))))
theorem zrX12_wishOf_0_ok : zck 0 ((zby cX12_wishOf).drop 0) zrX12_wishOf_0 = true := by decide +kernel
def vfX12_wishOf : List Cond := List.cons (.code yX12_wishOf cX12_wishOf 3 (some .int)) (apW [.fieldLink RX12 299 "HookPierModel" "pier" "LHookPierModel$Pier;", .methodLink RX12 307 yX12_spotOf, .instanceMethod yX12_spotOf, .selects RX12 yX12_spotOf yX12_spotOf, .initialized RX12, .methodLink RX12 310 yX12_fathomsOf, .instanceMethod yX12_fathomsOf, .selects RX12 yX12_fathomsOf yX12_fathomsOf, .methodLink RX12 313 yX12_baitOf, .instanceMethod yX12_baitOf, .selects RX12 yX12_baitOf yX12_baitOf, .methodLink RX12 316 yX11_wish, .instanceMethod yX11_wish, .selects RX11 yX11_wish yX11_wish, .initialized RX11] (apW wsX120 (apW vfX12_spotOf (apW vfX12_fathomsOf (apW vfX12_baitOf (vfX11_wish))))))
theorem ifX12_wishOf_X12 : ∀ w ∈ wsX120, w ∈ vfX12_wishOf := fun _ h => (List.mem_cons_of_mem _ (List.mem_append_right _ (List.mem_append_left _ h)))
theorem qfX12_wishOf : Good vfX12_wishOf := gd_cons (by decide +kernel) (gd_app (gd_dec (by decide +kernel) : Good [.fieldLink RX12 299 "HookPierModel" "pier" "LHookPierModel$Pier;", .methodLink RX12 307 yX12_spotOf, .instanceMethod yX12_spotOf, .selects RX12 yX12_spotOf yX12_spotOf, .initialized RX12, .methodLink RX12 310 yX12_fathomsOf, .instanceMethod yX12_fathomsOf, .selects RX12 yX12_fathomsOf yX12_fathomsOf, .methodLink RX12 313 yX12_baitOf, .instanceMethod yX12_baitOf, .selects RX12 yX12_baitOf yX12_baitOf, .methodLink RX12 316 yX11_wish, .instanceMethod yX11_wish, .selects RX11 yX11_wish yX11_wish, .initialized RX11]) (gd_app qsX12 (gd_app qfX12_spotOf (gd_app qfX12_fathomsOf (gd_app qfX12_baitOf qfX11_wish)))))
theorem gfX12_wishOf_0 : GoodIn vfX12_wishOf (wsV RX12 307 RX12 yX12_spotOf vfX12_spotOf) := goodIn_app (goodIn_r [.methodLink RX12 307 yX12_spotOf, .instanceMethod yX12_spotOf, .selects RX12 yX12_spotOf yX12_spotOf, .initialized RX12] [2, 3, 4, 5] rfl (by decide +kernel)) (goodIn_m (fun _ h => (List.mem_cons_of_mem _ (List.mem_append_right _ (List.mem_append_right _ (List.mem_append_left _ h))))) qfX12_spotOf)
theorem gfX12_wishOf_1 : GoodIn vfX12_wishOf (wsV RX12 310 RX12 yX12_fathomsOf vfX12_fathomsOf) := goodIn_app (goodIn_r [.methodLink RX12 310 yX12_fathomsOf, .instanceMethod yX12_fathomsOf, .selects RX12 yX12_fathomsOf yX12_fathomsOf, .initialized RX12] [6, 7, 8, 5] rfl (by decide +kernel)) (goodIn_m (fun _ h => (List.mem_cons_of_mem _ (List.mem_append_right _ (List.mem_append_right _ (List.mem_append_right _ (List.mem_append_left _ h)))))) qfX12_fathomsOf)
theorem gfX12_wishOf_2 : GoodIn vfX12_wishOf (wsV RX12 313 RX12 yX12_baitOf vfX12_baitOf) := goodIn_app (goodIn_r [.methodLink RX12 313 yX12_baitOf, .instanceMethod yX12_baitOf, .selects RX12 yX12_baitOf yX12_baitOf, .initialized RX12] [9, 10, 11, 5] rfl (by decide +kernel)) (goodIn_m (fun _ h => (List.mem_cons_of_mem _ (List.mem_append_right _ (List.mem_append_right _ (List.mem_append_right _ (List.mem_append_right _ (List.mem_append_left _ h))))))) qfX12_baitOf)
theorem gfX12_wishOf_3 : GoodIn vfX12_wishOf (wsV RX12 316 RX11 yX11_wish vfX11_wish) := goodIn_app (goodIn_r [.methodLink RX12 316 yX11_wish, .instanceMethod yX11_wish, .selects RX11 yX11_wish yX11_wish, .initialized RX11] [12, 13, 14, 15] rfl (by decide +kernel)) (goodIn_m (fun _ h => (List.mem_cons_of_mem _ (List.mem_append_right _ (List.mem_append_right _ (List.mem_append_right _ (List.mem_append_right _ (List.mem_append_right _ h))))))) qfX11_wish)
set_option maxHeartbeats 2000000 in
set_option maxRecDepth 100000 in
theorem kfX12_wishOf (l : Launch) (dC : Nat → ClassId) (dI : Nat → Nat → Nat) (a0 : Nat) (k1 : Int32) (k2 : Int32) (a3 : Nat) (uq : Nat → Nat) (kq : Nat → ClassId) (g6 : Value) (g7 : Value) (g8 : Value) (g9 : Value) (g10 : Value) (g11 : Value) (g12 : Value) (g13 : Value) (g14 : Value) (g15 : Value) (g16 : Value) (g17 : Value) (g18 : Value) (g19 : Value) (g20 : Value) (g21 : Value) (g22 : Value) (g23 : Value) (g24 : Value) (g25 : Value) (g26 : Value) (g27 : Value) (g28 : Value) (g29 : Value) (g30 : Value) (g31 : Value) (g32 : Value) (g33 : Value) (g34 : Value) (q_q : TX11_q) (sz : Nat) (out : Int32) (h : f_X12_wishOf k1 k2 q_q = some out) : KDi l yX12_wishOf vfX12_wishOf ({ frames := 3, cells := 0, slots := 0, locals := 71 }) (dC, dI) [.ref a0, .int k1, .int k2] sz ((a0, .inr (9, [g6, g7, g8, .ref a3, g9, g10, g11, g12, g13, g14, g15, g16, g17, g18, g19, g20, g21, g22, g23, g24, g25, g26, g27, g28, g29, g30, g31, g32, g33, g34])) :: bX11 a3 uq kq q_q []) (tX11 kq ([])) (fun (r : Int32) _ => r = out) 0 0 := by
  refine Met.ofW (cc := cX12_wishOf) (maxL := 3) (ret := (some .int)) (by decide) rfl ?_
  intro p e s m args below meth c s₁ B0 hml hv
  obtain ⟨rfl, hsz, hP, hK, hD0, hN⟩ := hv
  have hx := B0.exec
  have hb := B0.bytes
  have hr := B0.returns
  have hts := atoms_spec (ws := vfX12_wishOf) B0.pre
  have hown : s.vm.findClass RX12 = some m.cls := findClass_of_methodNamed B0.named
  have hlocks := B0.notSynchronized
  subst hsz
  have hD := hD0.self (sz := s.heap.size)
  generalize hAe : va_A ((a0, .inr (9, [g6, g7, g8, .ref a3, g9, g10, g11, g12, g13, g14, g15, g16, g17, g18, g19, g20, g21, g22, g23, g24, g25, g26, g27, g28, g29, g30, g31, g32, g33, g34])) :: bX11 a3 uq kq q_q []) s.heap.size = A at hD ⊢
  have hA : ∀ q : Nat, s.heap.size ≤ q → A q := fun q h => by rw [← hAe]; exact Or.inr h
  have hS : va_S A s.heap s.heap [] := va_S.rf
  have hP : va_P (dC, dI) vwCl ((a0, .inr (9, [g6, g7, g8, .ref a3, g9, g10, g11, g12, g13, g14, g15, g16, g17, g18, g19, g20, g21, g22, g23, g24, g25, g26, g27, g28, g29, g30, g31, g32, g33, g34])) :: bX11 a3 uq kq q_q []) s.heap := hP
  have hl := lv_entry ([.ref a0, .int k1, .int k2]) (n := 3) (Nat.le_of_ble_eq_true rfl)
  rw [lg_entry_eq]
  generalize (lg_sl ([.ref a0, .int k1, .int k2]) ++ List.replicate (3 - (lg_sl ([.ref a0, .int k1, .int k2])).length) Slot.unset).toArray = ls at hl ⊢
  have hl : lv_has ls 3 [(0, .ref a0), (1, .int k1), (2, .int k2)] := hl
  refine W_q (fun QQ hQQ => ?_)
  rw [f_X12_wishOf] at h
  refine lv_aload_n hx hb (zat zrX12_wishOf_0_ok 0 rfl) rfl (lv_at hl 0 rfl) ?_
  refine va_get (D := (dC, dI)) (ci := 9) (v := .ref a3) (C := RX12) (T := TX12) (N := 30) hx hb hts ifX12_wishOf_X12 hown hK hP 0 rfl rfl 3 (by decide) (hts (.fieldLink RX12 299 "HookPierModel" "pier" "LHookPierModel$Pier;") (List.mem_of_getElem? (i := 1) rfl)) (fun _ h9 => h9) rfl (zat zrX12_wishOf_0_ok 1 rfl) ?_
  refine lv_iload_n hx hb (zat zrX12_wishOf_0_ok 2 rfl) rfl (lv_at hl 1 rfl) ?_
  refine lv_aload_n hx hb (zat zrX12_wishOf_0_ok 3 rfl) rfl (lv_at hl 0 rfl) ?_
  refine lv_iload_n hx hb (zat zrX12_wishOf_0_ok 4 rfl) rfl (lv_at hl 2 rfl) ?_
  obtain ⟨o7, eo7, h⟩ := bd_of h
  refine ck_i (wc := ((a0, .inr (9, [g6, g7, g8, .ref a3, g9, g10, g11, g12, g13, g14, g15, g16, g17, g18, g19, g20, g21, g22, g23, g24, g25, g26, g27, g28, g29, g30, g31, g32, g33, g34])) :: bX11 a3 uq kq q_q [])) (wr := []) hP hD hK hS hA [0, 1, 2, 3, 4, 5, 6, 7, 8, 9, 10, 11, 12, 13, 14, 15] [] rfl rfl (by decide) (by decide) (by decide) (fun hPc hDc => (va_runV (As := [.int k2]) (rest := [.int k1, .ref a3]) ⟨hx, hb, hml, hown, hts⟩ (kfX12_spotOf l dC dI a0 k2 a3 uq kq (g6) (g7) (g8) (g9) (g10) (g11) (g12) (g13) (g14) (g15) (g16) (g17) (g18) (g19) (g20) (g21) (g22) (g23) (g24) (g25) (g26) (g27) (g28) (g29) (g30) (g31) (g32) (g33) (g34) q_q s.heap.size o7 eo7) (cwV 1 hts gfX12_wishOf_0 rfl rfl rfl (by decide +kernel) ⟨(Nat.le_of_ble_eq_true rfl), (Nat.le_of_ble_eq_true rfl)⟩) (PV hPc (hK.sub (tys' := (tX11 kq ([]))) [0, 1, 2, 3, 4, 5, 6, 7, 8, 9, 10, 11, 12, 13] rfl) hDc hN 0 rfl rfl) rfl rfl hl.1 rfl (lv_room (Nat.le_of_ble_eq_true rfl)) (zat zrX12_wishOf_0_ok 5 rfl) ⟨(Nat.le_of_ble_eq_true rfl), (Nat.le_of_ble_eq_true rfl)⟩)) (fun r7 _ H locs hw hP hD _ hS => ?_)
  obtain rfl := hw.symm
  obtain ⟨hP, hD⟩ := pd_mk ((a0, .inr (9, [g6, g7, g8, .ref a3, g9, g10, g11, g12, g13, g14, g15, g16, g17, g18, g19, g20, g21, g22, g23, g24, g25, g26, g27, g28, g29, g30, g31, g32, g33, g34])) :: bX11 a3 uq kq q_q []) hP hD
  refine lv_aload_n hx hb (zat zrX12_wishOf_0_ok 6 rfl) rfl (lv_at hl 0 rfl) ?_
  refine lv_iload_n hx hb (zat zrX12_wishOf_0_ok 7 rfl) rfl (lv_at hl 2 rfl) ?_
  obtain ⟨o12, eo12, h⟩ := bd_of h
  refine ck_i (wc := ((a0, .inr (9, [g6, g7, g8, .ref a3, g9, g10, g11, g12, g13, g14, g15, g16, g17, g18, g19, g20, g21, g22, g23, g24, g25, g26, g27, g28, g29, g30, g31, g32, g33, g34])) :: bX11 a3 uq kq q_q [])) (wr := []) hP hD hK hS hA [0, 1, 2, 3, 4, 5, 6, 7, 8, 9, 10, 11, 12, 13, 14, 15] [] rfl rfl (by decide) (by decide) (by decide) (fun hPc hDc => (va_runV (As := [.int k2]) (rest := [.int o7, .int k1, .ref a3]) ⟨hx, hb, hml, hown, hts⟩ (kfX12_fathomsOf l dC dI a0 k2 a3 uq kq (g6) (g7) (g8) (g9) (g10) (g11) (g12) (g13) (g14) (g15) (g16) (g17) (g18) (g19) (g20) (g21) (g22) (g23) (g24) (g25) (g26) (g27) (g28) (g29) (g30) (g31) (g32) (g33) (g34) q_q H.size o12 eo12) (cwV 1 hts gfX12_wishOf_1 rfl rfl rfl (by decide +kernel) ⟨(Nat.le_of_ble_eq_true rfl), (Nat.le_of_ble_eq_true rfl)⟩) (PV hPc (hK.sub (tys' := (tX11 kq ([]))) [0, 1, 2, 3, 4, 5, 6, 7, 8, 9, 10, 11, 12, 13] rfl) hDc hN 0 rfl rfl) rfl rfl hl.1 rfl (lv_room (Nat.le_of_ble_eq_true rfl)) (zat zrX12_wishOf_0_ok 8 rfl) ⟨(Nat.le_of_ble_eq_true rfl), (Nat.le_of_ble_eq_true rfl)⟩)) (fun r12 _ H locs hw hP hD _ hS => ?_)
  obtain rfl := hw.symm
  obtain ⟨hP, hD⟩ := pd_mk ((a0, .inr (9, [g6, g7, g8, .ref a3, g9, g10, g11, g12, g13, g14, g15, g16, g17, g18, g19, g20, g21, g22, g23, g24, g25, g26, g27, g28, g29, g30, g31, g32, g33, g34])) :: bX11 a3 uq kq q_q []) hP hD
  refine lv_aload_n hx hb (zat zrX12_wishOf_0_ok 9 rfl) rfl (lv_at hl 0 rfl) ?_
  refine lv_iload_n hx hb (zat zrX12_wishOf_0_ok 10 rfl) rfl (lv_at hl 2 rfl) ?_
  obtain ⟨o17, eo17, h⟩ := bd_of h
  refine ck_i (wc := ((a0, .inr (9, [g6, g7, g8, .ref a3, g9, g10, g11, g12, g13, g14, g15, g16, g17, g18, g19, g20, g21, g22, g23, g24, g25, g26, g27, g28, g29, g30, g31, g32, g33, g34])) :: bX11 a3 uq kq q_q [])) (wr := []) hP hD hK hS hA [0, 1, 2, 3, 4, 5, 6, 7, 8, 9, 10, 11, 12, 13, 14, 15] [] rfl rfl (by decide) (by decide) (by decide) (fun hPc hDc => (va_runV (As := [.int k2]) (rest := [.int o12, .int o7, .int k1, .ref a3]) ⟨hx, hb, hml, hown, hts⟩ (kfX12_baitOf l dC dI a0 k2 a3 uq kq (g6) (g7) (g8) (g9) (g10) (g11) (g12) (g13) (g14) (g15) (g16) (g17) (g18) (g19) (g20) (g21) (g22) (g23) (g24) (g25) (g26) (g27) (g28) (g29) (g30) (g31) (g32) (g33) (g34) q_q H.size o17 eo17) (cwV 1 hts gfX12_wishOf_2 rfl rfl rfl (by decide +kernel) ⟨(Nat.le_of_ble_eq_true rfl), (Nat.le_of_ble_eq_true rfl)⟩) (PV hPc (hK.sub (tys' := (tX11 kq ([]))) [0, 1, 2, 3, 4, 5, 6, 7, 8, 9, 10, 11, 12, 13] rfl) hDc hN 0 rfl rfl) rfl rfl hl.1 rfl (lv_room (Nat.le_of_ble_eq_true rfl)) (zat zrX12_wishOf_0_ok 11 rfl) ⟨(Nat.le_of_ble_eq_true rfl), (Nat.le_of_ble_eq_true rfl)⟩)) (fun r17 _ H locs hw hP hD _ hS => ?_)
  obtain rfl := hw.symm
  obtain ⟨hP, hD⟩ := pd_mk ((a0, .inr (9, [g6, g7, g8, .ref a3, g9, g10, g11, g12, g13, g14, g15, g16, g17, g18, g19, g20, g21, g22, g23, g24, g25, g26, g27, g28, g29, g30, g31, g32, g33, g34])) :: bX11 a3 uq kq q_q []) hP hD
  obtain ⟨o20, eo20, h⟩ := bd_of h
  refine ck_i (wc := (bX11 a3 uq kq q_q [])) (wr := ([(a0, .inr (9, [g6, g7, g8, .ref a3, g9, g10, g11, g12, g13, g14, g15, g16, g17, g18, g19, g20, g21, g22, g23, g24, g25, g26, g27, g28, g29, g30, g31, g32, g33, g34]))])) hP hD hK hS hA [1, 2, 3, 4, 5, 6, 7, 8, 9, 10, 11, 12, 13, 14, 15] [0] rfl rfl (by decide) (by decide) (by decide) (fun hPc hDc => (va_runV (As := [.int k1, .int o7, .int o12, .int o17]) (rest := []) ⟨hx, hb, hml, hown, hts⟩ (kfX11_wish l dC dI a3 k1 o7 o12 o17 uq kq q_q H.size o20 eo20) (cwV 4 hts gfX12_wishOf_3 rfl rfl rfl (by decide +kernel) ⟨(Nat.le_of_ble_eq_true rfl), (Nat.le_of_ble_eq_true rfl)⟩) (PV hPc (hK.sub (tys' := (tX11 kq ([]))) [0, 1, 2, 3, 4, 5, 6, 7, 8, 9, 10, 11, 12, 13] rfl) hDc hN 0 rfl rfl) rfl rfl hl.1 rfl (lv_room (Nat.le_of_ble_eq_true rfl)) (zat zrX12_wishOf_0_ok 12 rfl) ⟨(Nat.le_of_ble_eq_true rfl), (Nat.le_of_ble_eq_true rfl)⟩)) (fun r20 _ H locs hw hP hD _ hS => ?_)
  obtain rfl := hw.symm
  obtain ⟨hP, hD⟩ := pd_mk ((a0, .inr (9, [g6, g7, g8, .ref a3, g9, g10, g11, g12, g13, g14, g15, g16, g17, g18, g19, g20, g21, g22, g23, g24, g25, g26, g27, g28, g29, g30, g31, g32, g33, g34])) :: bX11 a3 uq kq q_q []) hP hD
  obtain rfl := Option.some.inj h
  obtain ⟨hP9, hD9⟩ := pd_sub ((a0, .inr (9, [g6, g7, g8, .ref a3, g9, g10, g11, g12, g13, g14, g15, g16, g17, g18, g19, g20, g21, g22, g23, g24, g25, g26, g27, g28, g29, g30, g31, g32, g33, g34])) :: bX11 a3 uq kq q_q []) [0, 1, 2, 3, 4, 5, 6, 7, 8, 9, 10, 11, 12, 13, 14, 15] hP hD (by decide) rfl
  have hK9 := hK.sub (tys' := []) [] rfl
  rw [hQQ]
  exact W.iret (v := o20) hx hb hr (fun t ht hW => ⟨⟨o20, (), rfl, rfl, by rw [ht]; exact hP9, va_K.moved hW.alike hK9, hD9⟩, hS.F ht⟩) hS.2.2 (zat zrX12_wishOf_0_ok 13 rfl)
noncomputable def zrX12_taker_0 : List ZR := zc 0 true (.iconst 0) 1 (zc 1 true (.istore_n 3) 1 (zc 2 true (.iload_n 3) 1 (zc 3 true (.aload_n 0) 1 (zc 4 true (.getfield 299) 3 (zc 7 true (.getfield 231) 3 (zc 10 true (.if_icmp .ge 60) 3 (zc 13 true (.aload_n 1) 1 (zc 14 true (.iconst 0) 1 (zc 15 true (.iload_n 3) 1 (zc 16 true (.iadd) 1 (zc 17 true (.iaload) 1 (zc 18 true (.ifCond .eq 6) 3 (zc 21 true (.goto 43) 3 (zc 24 true (.aload_n 1) 1 (zc 25 true (.bipush 24) 2 (zc 27 true (.ldc2_w 463) 3 (zc 30 true (.aload_n 1) 1 (zc 31 true (.bipush 24) 2 (zc 33 true (.iaload) 1 (zc 34 true (.i2l) 1 (zc 35 true (.lmul) 1 (zc 36 true (.ldc2_w 465) 3 (zc 39 true (.ladd) 1 (zc 40 true (.ldc2_w 467) 3 (zc 43 true (.lrem) 1 (zc 44 true (.l2i) 1 (zc 45 true (.iastore) 1 (zc 46 true (.aload_n 1) 1 (zc 47 true (.bipush 24) 2 (zc 49 true (.iaload) 1 (zc 50 true (.bipush 100) 2 (zc 52 true (.irem) 1 (zc 53 true (.aload_n 0) 1 (zc 54 true (.iload_n 3) 1 (zc 55 true (.iload_n 2) 1 (zc 56 true (.invokevirtual 346) 3 (zc 59 true (.if_icmp .ge 5) 3 (zc 62 true (.iload_n 3) 1 (zc 63 true (.ireturn) 1 (zc 64 true (.iinc 3 1) 3 (zc 67 true (.goto (-65)) 3 (zc 70 true (.bipush (-2)) 2 (zc 72 true (.ireturn) 1 ([]))))))))))))))))))))))))))))))))))))))))))))
theorem zrX12_taker_0_ok : zck 0 ((zby cX12_taker).drop 0) zrX12_taker_0 = true := by decide +kernel
def vfX12_taker : List Cond := List.cons (.code yX12_taker cX12_taker 4 (some .int)) (apW [.fieldLink RX12 299 "HookPierModel" "pier" "LHookPierModel$Pier;", .constantLong RX12 463 (75), .constantLong RX12 465 (74), .constantLong RX12 467 (65537), .methodLink RX12 346 yX12_wishOf, .instanceMethod yX12_wishOf, .selects RX12 yX12_wishOf yX12_wishOf, .initialized RX12] (apW wsX120 (apW wsX110 (vfX12_wishOf))))
theorem ifX12_taker_X12 : ∀ w ∈ wsX120, w ∈ vfX12_taker := fun _ h => (List.mem_cons_of_mem _ (List.mem_append_right _ (List.mem_append_left _ h)))
theorem ifX12_taker_X11 : ∀ w ∈ wsX110, w ∈ vfX12_taker := fun _ h => (List.mem_cons_of_mem _ (List.mem_append_right _ (List.mem_append_right _ (List.mem_append_left _ h))))
theorem qfX12_taker : Good vfX12_taker := gd_cons (by decide +kernel) (gd_app (gd_dec (by decide +kernel) : Good [.fieldLink RX12 299 "HookPierModel" "pier" "LHookPierModel$Pier;", .constantLong RX12 463 (75), .constantLong RX12 465 (74), .constantLong RX12 467 (65537), .methodLink RX12 346 yX12_wishOf, .instanceMethod yX12_wishOf, .selects RX12 yX12_wishOf yX12_wishOf, .initialized RX12]) (gd_app qsX12 (gd_app qsX11 qfX12_wishOf)))
theorem gfX12_taker_0 : GoodIn vfX12_taker (wsV RX12 346 RX12 yX12_wishOf vfX12_wishOf) := goodIn_app (goodIn_r [.methodLink RX12 346 yX12_wishOf, .instanceMethod yX12_wishOf, .selects RX12 yX12_wishOf yX12_wishOf, .initialized RX12] [5, 6, 7, 8] rfl (by decide +kernel)) (goodIn_m (fun _ h => (List.mem_cons_of_mem _ (List.mem_append_right _ (List.mem_append_right _ (List.mem_append_right _ h))))) qfX12_wishOf)
set_option maxHeartbeats 2000000 in
set_option maxRecDepth 100000 in
theorem kfX12_taker (l : Launch) (dC : Nat → ClassId) (dI : Nat → Nat → Nat) (a0 : Nat) (a1 : Nat) (k2 : Int32) (a3 : Nat) (uq : Nat → Nat) (kq : Nat → ClassId) (m_v : TX12_v) (g7 : Value) (g8 : Value) (g9 : Value) (g10 : Value) (g11 : Value) (g12 : Value) (g13 : Value) (g14 : Value) (g15 : Value) (g16 : Value) (g17 : Value) (g18 : Value) (g19 : Value) (g20 : Value) (g21 : Value) (g22 : Value) (g23 : Value) (g24 : Value) (g25 : Value) (g26 : Value) (g27 : Value) (g28 : Value) (g29 : Value) (g30 : Value) (g31 : Value) (g32 : Value) (g33 : Value) (g34 : Value) (q_q : TX11_q) (cB36 : ClassId) (sz : Nat) (out : (Int32 × TX12_v)) (h : f_X12_taker k2 m_v q_q = some out) : KCi l yX12_taker vfX12_taker ({ frames := 4, cells := 0, slots := 0, locals := 93 }) (dC, dI) [.ref a0, .ref a1, .int k2] sz ((a0, .inr (9, [g7, g8, g9, .ref a3, g10, g11, g12, g13, g14, g15, g16, g17, g18, g19, g20, .ref a1, g21, g22, g23, g24, g25, g26, g27, g28, g29, g30, g31, g32, g33, g34])) :: bX11 a3 uq kq q_q ([(a1, .inl (cB36, 26, .inl m_v))])) (tX11 kq ((cB36, .int) :: [])) (fun (r : Int32) _ => r = out.1) ((a0, .inr (9, [g7, g8, g9, .ref a3, g10, g11, g12, g13, g14, g15, g16, g17, g18, g19, g20, .ref a1, g21, g22, g23, g24, g25, g26, g27, g28, g29, g30, g31, g32, g33, g34])) :: bX11 a3 uq kq q_q ([(a1, .inl (cB36, 26, .inl out.2))])) 0 0 := by
  refine Met.ofW (cc := cX12_taker) (maxL := 4) (ret := (some .int)) (by decide) rfl ?_
  intro p e s m args below meth c s₁ B0 hml hv
  obtain ⟨rfl, hsz, hP, hK, hD0, hN⟩ := hv
  have hx := B0.exec
  have hb := B0.bytes
  have hr := B0.returns
  have hts := atoms_spec (ws := vfX12_taker) B0.pre
  have hown : s.vm.findClass RX12 = some m.cls := findClass_of_methodNamed B0.named
  have hlocks := B0.notSynchronized
  subst hsz
  have hD := hD0.self (sz := s.heap.size)
  generalize hAe : va_A ((a0, .inr (9, [g7, g8, g9, .ref a3, g10, g11, g12, g13, g14, g15, g16, g17, g18, g19, g20, .ref a1, g21, g22, g23, g24, g25, g26, g27, g28, g29, g30, g31, g32, g33, g34])) :: bX11 a3 uq kq q_q ([(a1, .inl (cB36, 26, .inl m_v))])) s.heap.size = A at hD ⊢
  have hA : ∀ q : Nat, s.heap.size ≤ q → A q := fun q h => by rw [← hAe]; exact Or.inr h
  have hS : va_S A s.heap s.heap [] := va_S.rf
  have hP : va_P (dC, dI) vwCl ((a0, .inr (9, [g7, g8, g9, .ref a3, g10, g11, g12, g13, g14, g15, g16, g17, g18, g19, g20, .ref a1, g21, g22, g23, g24, g25, g26, g27, g28, g29, g30, g31, g32, g33, g34])) :: bX11 a3 uq kq q_q ([(a1, .inl (cB36, 26, .inl m_v))])) s.heap := hP
  have hl := lv_entry ([.ref a0, .ref a1, .int k2]) (n := 4) (Nat.le_of_ble_eq_true rfl)
  rw [lg_entry_eq]
  generalize (lg_sl ([.ref a0, .ref a1, .int k2]) ++ List.replicate (4 - (lg_sl ([.ref a0, .ref a1, .int k2])).length) Slot.unset).toArray = ls at hl ⊢
  have hl : lv_has ls 4 [(0, .ref a0), (1, .ref a1), (2, .int k2)] := hl
  refine W_q (fun QQ hQQ => ?_)
  rw [f_X12_taker] at h
  refine lv_iconst (v := 0) hx hb (zat zrX12_taker_0_ok 0 rfl) (by decide) ?_
  refine lv_istore_n (lv' := [(3, .int 0), (0, .ref a0), (1, .ref a1), (2, .int k2)]) hx hb (zat zrX12_taker_0_ok 1 rfl) rfl hl (by decide) rfl (fun ls hl => ?_)
  have L2 : ∀ (n2 : Nat) (v2_l3 : Int32) (v2_m_v : TX12_v) (H : Heap) (locs : List Loc) (ls : Array Slot), f_X12_taker_L2 k2 q_q n2 v2_l3 v2_m_v = some out → va_P (dC, dI) vwCl ((a0, .inr (9, [g7, g8, g9, .ref a3, g10, g11, g12, g13, g14, g15, g16, g17, g18, g19, g20, .ref a1, g21, g22, g23, g24, g25, g26, g27, g28, g29, g30, g31, g32, g33, g34])) :: bX11 a3 uq kq q_q ([(a1, .inl (cB36, 26, .inl v2_m_v))])) H → va_D A ((a0, .inr (9, [g7, g8, g9, .ref a3, g10, g11, g12, g13, g14, g15, g16, g17, g18, g19, g20, .ref a1, g21, g22, g23, g24, g25, g26, g27, g28, g29, g30, g31, g32, g33, g34])) :: bX11 a3 uq kq q_q ([(a1, .inl (cB36, 26, .inl v2_m_v))])) → va_S A s.heap H locs → lv_has ls 4 [(3, .int v2_l3), (0, .ref a0), (1, .ref a1), (2, .int k2)] → W p l e (headSpec vfX12_taker { frames := 4, cells := 0, slots := 0, locals := 93 }).room s m ([.ref a0, .ref a1, .int k2]).toArray below meth c H locs 0 0 QQ (F0 m 2 ls []) := by
    intro n2
    induction n2 with
    | zero =>
      intro v2_l3 v2_m_v H locs ls h  _ _ _ _
      rw [f_X12_taker_L2] at h
      cases h
    | succ n2 ih2 =>
      intro v2_l3 v2_m_v H locs ls h  hP hD hS hl
      rw [f_X12_taker_L2] at h
      refine lv_iload_n hx hb (zat zrX12_taker_0_ok 2 rfl) rfl (lv_at hl 0 rfl) ?_
      refine lv_aload_n hx hb (zat zrX12_taker_0_ok 3 rfl) rfl (lv_at hl 1 rfl) ?_
      refine va_get (D := (dC, dI)) (ci := 9) (v := .ref a3) (C := RX12) (T := TX12) (N := 30) hx hb hts ifX12_taker_X12 hown hK hP 0 rfl rfl 3 (by decide) (hts (.fieldLink RX12 299 "HookPierModel" "pier" "LHookPierModel$Pier;") (List.mem_of_getElem? (i := 1) rfl)) (fun _ h9 => h9) rfl (zat zrX12_taker_0_ok 4 rfl) ?_
      refine va_getN (D := (dC, dI)) (ci := 8) (v := .int q_q.2.2.2.2.2.2.1) (C := RX11) (T := TX11) (N := 24) hx hb hts ifX12_taker_X11 hown hK hP 1 rfl rfl 6 (by decide) (va_Nw.use rfl (hN.1 (.fieldLinkNest RX12 231 "HookPierModel$Pier" "answers" "I" "HookPierModel") (List.mem_of_getElem? (i := 28) rfl))) (fun _ h9 => h9) rfl (zat zrX12_taker_0_ok 5 rfl) ?_
      refine lv_icmp_ge (tgt := 70) hx hb (zat zrX12_taker_0_ok 6 rfl) (by decide) (fun c10 => ?_) (fun c10 => ?_)
      · have h := (if_pos c10).symm.trans h
        refine lv_bipush (v := (-2)) hx hb (zat zrX12_taker_0_ok 42 rfl) (by decide) ?_
        obtain rfl := Option.some.inj h
        obtain ⟨hP9, hD9⟩ := pd_sub ((a0, .inr (9, [g7, g8, g9, .ref a3, g10, g11, g12, g13, g14, g15, g16, g17, g18, g19, g20, .ref a1, g21, g22, g23, g24, g25, g26, g27, g28, g29, g30, g31, g32, g33, g34])) :: bX11 a3 uq kq q_q ([(a1, .inl (cB36, 26, .inl v2_m_v))])) [0, 1, 2, 3, 4, 5, 6, 7, 8, 9, 10, 11, 12, 13, 14, 15, 16] hP hD (by decide) rfl
        have hK9 := hK.sub (tys' := []) [] rfl
        rw [hQQ]
        exact W.iret (v := (-2 : Int32)) hx hb hr (fun t ht hW => ⟨⟨(-2 : Int32), (), rfl, rfl, by rw [ht]; exact hP9, va_K.moved hW.alike hK9, hD9⟩, hS.F ht⟩) hS.2.2 (zat zrX12_taker_0_ok 43 rfl)
      · have h := (if_neg c10).symm.trans h
        refine lv_aload_n hx hb (zat zrX12_taker_0_ok 7 rfl) rfl (lv_at hl 2 rfl) ?_
        refine lv_iconst (v := 0) hx hb (zat zrX12_taker_0_ok 8 rfl) (by decide) ?_
        refine lv_iload_n hx hb (zat zrX12_taker_0_ok 9 rfl) rfl (lv_at hl 0 rfl) ?_
        refine lv_iadd hx hb (zat zrX12_taker_0_ok 10 rfl) ?_
        obtain ⟨hg17, h⟩ := gA_of h
        refine va_iald hx hb hK hP 16 14 rfl rfl hg17 (zat zrX12_taker_0_ok 11 rfl) ?_
        have J64 : ∀ (v64_m_v : TX12_v) (H : Heap) (locs : List Loc) (ls : Array Slot), f_X12_taker_J64 (f_X12_taker_L2 k2 q_q n2) v2_l3 v64_m_v = some out → va_P (dC, dI) vwCl ((a1, .inl (cB36, 26, .inl v64_m_v)) :: (a0, .inr (9, [g7, g8, g9, .ref a3, g10, g11, g12, g13, g14, g15, g16, g17, g18, g19, g20, .ref a1, g21, g22, g23, g24, g25, g26, g27, g28, g29, g30, g31, g32, g33, g34])) :: bX11 a3 uq kq q_q []) H → va_D A ((a1, .inl (cB36, 26, .inl v64_m_v)) :: (a0, .inr (9, [g7, g8, g9, .ref a3, g10, g11, g12, g13, g14, g15, g16, g17, g18, g19, g20, .ref a1, g21, g22, g23, g24, g25, g26, g27, g28, g29, g30, g31, g32, g33, g34])) :: bX11 a3 uq kq q_q []) → va_S A s.heap H locs → lv_has ls 4 [(3, .int v2_l3), (0, .ref a0), (1, .ref a1), (2, .int k2)] → W p l e (headSpec vfX12_taker { frames := 4, cells := 0, slots := 0, locals := 93 }).room s m ([.ref a0, .ref a1, .int k2]).toArray below meth c H locs 0 0 QQ (F0 m 64 ls []) := by
          intro v64_m_v H locs ls h  hP hD hS hl
          rw [f_X12_taker_J64] at h
          refine lv_iinc (v := (v2_l3 + (1 : Int32))) (lv' := [(3, .int (v2_l3 + (1 : Int32))), (0, .ref a0), (1, .ref a1), (2, .int k2)]) hx hb (zat zrX12_taker_0_ok 40 rfl) hl (k := 0) rfl rfl (by decide) rfl (fun ls hl => ?_)
          refine lv_goto (tgt := 2) hx hb (zat zrX12_taker_0_ok 41 rfl) (by decide) ?_
          exact ih2 (v2_l3 + (1 : Int32)) v64_m_v H _ ls h  (hP.sub (ws' := ((a0, .inr (9, [g7, g8, g9, .ref a3, g10, g11, g12, g13, g14, g15, g16, g17, g18, g19, g20, .ref a1, g21, g22, g23, g24, g25, g26, g27, g28, g29, g30, g31, g32, g33, g34])) :: bX11 a3 uq kq q_q ([(a1, .inl (cB36, 26, .inl v64_m_v))]))) [1, 2, 3, 4, 5, 6, 7, 8, 9, 10, 11, 12, 13, 14, 15, 16, 0] rfl) (hD.sub (ws' := ((a0, .inr (9, [g7, g8, g9, .ref a3, g10, g11, g12, g13, g14, g15, g16, g17, g18, g19, g20, .ref a1, g21, g22, g23, g24, g25, g26, g27, g28, g29, g30, g31, g32, g33, g34])) :: bX11 a3 uq kq q_q ([(a1, .inl (cB36, 26, .inl v64_m_v))]))) [1, 2, 3, 4, 5, 6, 7, 8, 9, 10, 11, 12, 13, 14, 15, 16, 0] (by decide) rfl) hS (lv_sub hl [0, 1, 2, 3] rfl)
        refine lv_if_eq (tgt := 24) hx hb (zat zrX12_taker_0_ok 12 rfl) (by decide) (fun c18 => ?_) (fun c18 => ?_)
        · have h := (if_pos c18).symm.trans h
          refine lv_aload_n hx hb (zat zrX12_taker_0_ok 14 rfl) rfl (lv_at hl 2 rfl) ?_
          refine lv_bipush (v := 24) hx hb (zat zrX12_taker_0_ok 15 rfl) (by decide) ?_
          refine lv_ldc2 hx hb hown (hts (.constantLong RX12 463 (75)) (List.mem_of_getElem? (i := 2) rfl)) (zat zrX12_taker_0_ok 16 rfl) ?_
          refine lv_aload_n hx hb (zat zrX12_taker_0_ok 17 rfl) rfl (lv_at hl 2 rfl) ?_
          refine lv_bipush (v := 24) hx hb (zat zrX12_taker_0_ok 18 rfl) (by decide) ?_
          refine va_iald hx hb hK hP 16 14 rfl rfl (by unfold vp_in; decide) (zat zrX12_taker_0_ok 19 rfl) ?_
          refine lv_i2l hx hb (zat zrX12_taker_0_ok 20 rfl) rfl ?_
          refine lv_lmul hx hb (zat zrX12_taker_0_ok 21 rfl) ?_
          refine lv_topl (fun z35 ez35 => ?_)
          have h := nm_of h z35 ez35
          refine lv_ldc2 hx hb hown (hts (.constantLong RX12 465 (74)) (List.mem_of_getElem? (i := 3) rfl)) (zat zrX12_taker_0_ok 22 rfl) ?_
          refine lv_ladd hx hb (zat zrX12_taker_0_ok 23 rfl) ?_
          refine lv_ldc2 hx hb hown (hts (.constantLong RX12 467 (65537)) (List.mem_of_getElem? (i := 4) rfl)) (zat zrX12_taker_0_ok 24 rfl) ?_
          refine lv_lrem hx hb (zat zrX12_taker_0_ok 25 rfl) (by decide) ?_
          refine lv_topl (fun z43 ez43 => ?_)
          have h := nm_of h z43 ez43
          refine lv_l2i hx hb (zat zrX12_taker_0_ok 26 rfl) rfl ?_
          refine va_iast hx hb hK hP hD hS 16 14 rfl rfl (by unfold vp_in; decide) (zat zrX12_taker_0_ok 27 rfl) (fun H locs hP hD hS => ?_)
          obtain ⟨hP, hD⟩ := pd_mk ((a0, .inr (9, [g7, g8, g9, .ref a3, g10, g11, g12, g13, g14, g15, g16, g17, g18, g19, g20, .ref a1, g21, g22, g23, g24, g25, g26, g27, g28, g29, g30, g31, g32, g33, g34])) :: bX11 a3 uq kq q_q ([(a1, .inl (cB36, 26, .inl (upd v2_m_v ((24 : Int32)).toNatClampNeg (z43).toInt32)))])) hP hD
          refine lv_aload_n hx hb (zat zrX12_taker_0_ok 28 rfl) rfl (lv_at hl 2 rfl) ?_
          refine lv_bipush (v := 24) hx hb (zat zrX12_taker_0_ok 29 rfl) (by decide) ?_
          refine va_iald hx hb hK hP 16 14 rfl rfl (by unfold vp_in; decide) (zat zrX12_taker_0_ok 30 rfl) ?_
          refine lv_topi (fun z49 ez49 => ?_)
          have h := nm_of h z49 ez49
          refine lv_bipush (v := 100) hx hb (zat zrX12_taker_0_ok 31 rfl) (by decide) ?_
          refine lv_irem hx hb (zat zrX12_taker_0_ok 32 rfl) (by decide) ?_
          refine lv_aload_n hx hb (zat zrX12_taker_0_ok 33 rfl) rfl (lv_at hl 1 rfl) ?_
          refine lv_iload_n hx hb (zat zrX12_taker_0_ok 34 rfl) rfl (lv_at hl 0 rfl) ?_
          refine lv_iload_n hx hb (zat zrX12_taker_0_ok 35 rfl) rfl (lv_at hl 3 rfl) ?_
          obtain ⟨o56, eo56, h⟩ := bd_of h
          refine ck_i (wc := ((a0, .inr (9, [g7, g8, g9, .ref a3, g10, g11, g12, g13, g14, g15, g16, g17, g18, g19, g20, .ref a1, g21, g22, g23, g24, g25, g26, g27, g28, g29, g30, g31, g32, g33, g34])) :: bX11 a3 uq kq q_q [])) (wr := ([(a1, .inl (cB36, 26, .inl (upd v2_m_v ((24 : Int32)).toNatClampNeg (z43).toInt32)))])) hP hD hK hS hA [0, 1, 2, 3, 4, 5, 6, 7, 8, 9, 10, 11, 12, 13, 14, 15] [16] rfl rfl (by decide) (by decide) (by decide) (fun hPc hDc => (va_runV (As := [.int v2_l3, .int k2]) (rest := [.int (z49 - z49 / (100 : Int32) * (100 : Int32))]) ⟨hx, hb, hml, hown, hts⟩ (kfX12_wishOf l dC dI a0 v2_l3 k2 a3 uq kq (g7) (g8) (g9) (g10) (g11) (g12) (g13) (g14) (g15) (g16) (g17) (g18) (g19) (g20) (.ref a1) (g21) (g22) (g23) (g24) (g25) (g26) (g27) (g28) (g29) (g30) (g31) (g32) (g33) (g34) q_q H.size o56 eo56) (cwV 2 hts gfX12_taker_0 rfl rfl rfl (by decide +kernel) ⟨(Nat.le_of_ble_eq_true rfl), (Nat.le_of_ble_eq_true rfl)⟩) (PV hPc (hK.sub (tys' := (tX11 kq ([]))) [0, 1, 2, 3, 4, 5, 6, 7, 8, 9, 10, 11, 12, 13] rfl) hDc hN 0 rfl rfl) rfl rfl hl.1 rfl (lv_room (Nat.le_of_ble_eq_true rfl)) (zat zrX12_taker_0_ok 36 rfl) ⟨(Nat.le_of_ble_eq_true rfl), (Nat.le_of_ble_eq_true rfl)⟩)) (fun r56 _ H locs hw hP hD _ hS => ?_)
          obtain rfl := hw.symm
          obtain ⟨hP, hD⟩ := pd_mk ((a1, .inl (cB36, 26, .inl (upd v2_m_v ((24 : Int32)).toNatClampNeg (z43).toInt32))) :: (a0, .inr (9, [g7, g8, g9, .ref a3, g10, g11, g12, g13, g14, g15, g16, g17, g18, g19, g20, .ref a1, g21, g22, g23, g24, g25, g26, g27, g28, g29, g30, g31, g32, g33, g34])) :: bX11 a3 uq kq q_q []) hP hD
          refine lv_icmp_ge (tgt := 64) hx hb (zat zrX12_taker_0_ok 37 rfl) (by decide) (fun c59 => ?_) (fun c59 => ?_)
          · have h := (if_pos c59).symm.trans h
            exact J64 (upd v2_m_v ((24 : Int32)).toNatClampNeg (z43).toInt32) H _ ls h  hP hD hS (lv_sub hl [0, 1, 2, 3] rfl)
          · have h := (if_neg c59).symm.trans h
            refine lv_iload_n hx hb (zat zrX12_taker_0_ok 38 rfl) rfl (lv_at hl 0 rfl) ?_
            obtain rfl := Option.some.inj h
            obtain ⟨hP9, hD9⟩ := pd_sub ((a0, .inr (9, [g7, g8, g9, .ref a3, g10, g11, g12, g13, g14, g15, g16, g17, g18, g19, g20, .ref a1, g21, g22, g23, g24, g25, g26, g27, g28, g29, g30, g31, g32, g33, g34])) :: bX11 a3 uq kq q_q ([(a1, .inl (cB36, 26, .inl (upd v2_m_v ((24 : Int32)).toNatClampNeg (z43).toInt32)))])) [1, 2, 3, 4, 5, 6, 7, 8, 9, 10, 11, 12, 13, 14, 15, 16, 0] hP hD (by decide) rfl
            have hK9 := hK.sub (tys' := []) [] rfl
            rw [hQQ]
            exact W.iret (v := v2_l3) hx hb hr (fun t ht hW => ⟨⟨v2_l3, (), rfl, rfl, by rw [ht]; exact hP9, va_K.moved hW.alike hK9, hD9⟩, hS.F ht⟩) hS.2.2 (zat zrX12_taker_0_ok 39 rfl)
        · have h := (if_neg c18).symm.trans h
          refine lv_goto (tgt := 64) hx hb (zat zrX12_taker_0_ok 13 rfl) (by decide) ?_
          exact J64 v2_m_v H _ ls h  (hP.sub (ws' := ((a1, .inl (cB36, 26, .inl v2_m_v)) :: (a0, .inr (9, [g7, g8, g9, .ref a3, g10, g11, g12, g13, g14, g15, g16, g17, g18, g19, g20, .ref a1, g21, g22, g23, g24, g25, g26, g27, g28, g29, g30, g31, g32, g33, g34])) :: bX11 a3 uq kq q_q [])) [16, 0, 1, 2, 3, 4, 5, 6, 7, 8, 9, 10, 11, 12, 13, 14, 15] rfl) (hD.sub (ws' := ((a1, .inl (cB36, 26, .inl v2_m_v)) :: (a0, .inr (9, [g7, g8, g9, .ref a3, g10, g11, g12, g13, g14, g15, g16, g17, g18, g19, g20, .ref a1, g21, g22, g23, g24, g25, g26, g27, g28, g29, g30, g31, g32, g33, g34])) :: bX11 a3 uq kq q_q [])) [16, 0, 1, 2, 3, 4, 5, 6, 7, 8, 9, 10, 11, 12, 13, 14, 15] (by decide) rfl) hS (lv_sub hl [0, 1, 2, 3] rfl)
  exact L2 FU (0 : Int32) m_v s.heap _ ls h  hP hD hS (lv_sub hl [0, 1, 2, 3] rfl)
noncomputable def zrX12_goesBy_0 : List ZR := zc 0 true (.iconst 0) 1 (zc 1 true (.istore_n 2) 1 (zc 2 true (.iconst 0) 1 (zc 3 true (.istore_n 3) 1 (zc 4 true (.iload_n 3) 1 (zc 5 true (.aload_n 0) 1 (zc 6 true (.getfield 299) 3 (zc 9 true (.getfield 224) 3 (zc 12 true (.if_icmp .ge 137) 3 (zc 15 true (.aload_n 0) 1 (zc 16 true (.getfield 299) 3 (zc 19 true (.aload_n 1) 1 (zc 20 true (.bipush 23) 2 (zc 22 true (.iaload) 1 (zc 23 true (.invokevirtual 341) 3 (zc 26 true (.ifCond .ne 123) 3 (zc 29 true (.aload_n 1) 1 (zc 30 true (.bipush 18) 2 (zc 32 true (.iload_n 3) 1 (zc 33 true (.iadd) 1 (zc 34 true (.iaload) 1 (zc 35 true (.bipush (-2)) 2 (zc 37 true (.if_icmp .eq 106) 3 (zc 40 true (.aload_n 0) 1 (zc 41 true (.aload_n 1) 1 (zc 42 true (.iload_n 3) 1 (zc 43 true (.invokevirtual 337) 3 (zc 46 true (.ifCond .eq 6) 3 (zc 49 true (.goto 94) 3 (zc 52 true (.aload_n 0) 1 (zc 53 true (.aload_n 1) 1 (zc 54 true (.aload_n 1) 1 (zc 55 true (.bipush 18) 2 (zc 57 true (.iload_n 3) 1 (zc 58 true (.iadd) 1 (zc 59 true (.iaload) 1 (zc 60 true (.invokevirtual 469) 3 (zc 63 true (.istore 4) 2 (zc 65 true (.iload 4) 2 (zc 67 true (.bipush (-2)) 2 (zc 69 true (.if_icmp .ne 6) 3 (zc 72 true (.goto 71) 3 (zc 75 true (.aload_n 1) 1 (zc 76 true (.bipush 18) 2 (zc 78 true (.iload_n 3) 1 (zc 79 true (.iadd) 1 (zc 80 true (.bipush (-2)) 2 (zc 82 true (.iastore) 1 (zc 83 true (.aload_n 0) 1 (zc 84 true (.getfield 299) 3 (zc 87 true (.getfield 256) 3 (zc 90 true (.iload 4) 2 (zc 92 true (.iaload) 1 (zc 93 true (.iconst 2) 1 (zc 94 true (.if_icmp .ne 16) 3 (zc 97 true (.aload_n 0) 1 (zc 98 true (.dup) 1 (zc 99 true (.getfield 473) 3 (zc 102 true (.iconst 1) 1 (zc 103 true (.iadd) 1 (zc 104 true (.putfield 473) 3 (zc 107 true (.goto 36) 3 (zc 110 true (.aload_n 1) 1 (zc 111 true (.iconst 0) 1 ([]))))))))))))))))))))))))))))))))))))))))))))))))))))))))))))))))
theorem zrX12_goesBy_0_ok : zck 0 ((zby cX12_goesBy).drop 0) zrX12_goesBy_0 = true := by decide +kernel
noncomputable def zrX12_goesBy_1 : List ZR := zc 112 true (.iload 4) 2 (zc 114 true (.iadd) 1 (zc 115 true (.iconst 1) 1 (zc 116 true (.iastore) 1 (zc 117 true (.aload_n 1) 1 (zc 118 true (.bipush 6) 2 (zc 120 true (.iload 4) 2 (zc 122 true (.iadd) 1 (zc 123 true (.aload_n 1) 1 (zc 124 true (.bipush 23) 2 (zc 126 true (.iaload) 1 (zc 127 true (.iastore) 1 (zc 128 true (.aload_n 1) 1 (zc 129 true (.bipush 12) 2 (zc 131 true (.iload 4) 2 (zc 133 true (.iadd) 1 (zc 134 true (.iload_n 3) 1 (zc 135 true (.iastore) 1 (zc 136 true (.iload_n 2) 1 (zc 137 true (.iconst 1) 1 (zc 138 true (.iload 4) 2 (zc 140 true (.ishl) 1 (zc 141 true (.ior) 1 (zc 142 true (.istore_n 2) 1 (zc 143 true (.iinc 3 1) 3 (zc 146 true (.goto (-142)) 3 (zc 149 true (.aload_n 1) 1 (zc 150 true (.bipush 23) 2 (zc 152 true (.dup2) 1 (zc 153 true (.iaload) 1 (zc 154 true (.iconst 1) 1 (zc 155 true (.iadd) 1 (zc 156 true (.iastore) 1 (zc 157 true (.iload_n 2) 1 (zc 158 true (.ireturn) 1 ([])))))))))))))))))))))))))))))))))))
theorem zrX12_goesBy_1_ok : zck 112 ((zby cX12_goesBy).drop 112) zrX12_goesBy_1 = true := by decide +kernel
def vfX12_goesBy : List Cond := List.cons (.code yX12_goesBy cX12_goesBy 5 (some .int)) (apW [.fieldLink RX12 299 "HookPierModel" "pier" "LHookPierModel$Pier;", .methodLink RX12 341 yX11_isClose, .instanceMethod yX11_isClose, .selects RX11 yX11_isClose yX11_isClose, .initialized RX11, .methodLink RX12 337 yX12_isTangled, .instanceMethod yX12_isTangled, .selects RX12 yX12_isTangled yX12_isTangled, .initialized RX12, .methodLink RX12 469 yX12_taker, .instanceMethod yX12_taker, .selects RX12 yX12_taker yX12_taker, .fieldLink RX12 473 "HookPierModel" "crabsNow" "I"] (apW wsX120 (apW wsX110 (apW vfX11_isClose (apW vfX12_isTangled (vfX12_taker))))))
theorem ifX12_goesBy_X12 : ∀ w ∈ wsX120, w ∈ vfX12_goesBy := fun _ h => (List.mem_cons_of_mem _ (List.mem_append_right _ (List.mem_append_left _ h)))
theorem ifX12_goesBy_X11 : ∀ w ∈ wsX110, w ∈ vfX12_goesBy := fun _ h => (List.mem_cons_of_mem _ (List.mem_append_right _ (List.mem_append_right _ (List.mem_append_left _ h))))
theorem qfX12_goesBy : Good vfX12_goesBy := gd_cons (by decide +kernel) (gd_app (gd_dec (by decide +kernel) : Good [.fieldLink RX12 299 "HookPierModel" "pier" "LHookPierModel$Pier;", .methodLink RX12 341 yX11_isClose, .instanceMethod yX11_isClose, .selects RX11 yX11_isClose yX11_isClose, .initialized RX11, .methodLink RX12 337 yX12_isTangled, .instanceMethod yX12_isTangled, .selects RX12 yX12_isTangled yX12_isTangled, .initialized RX12, .methodLink RX12 469 yX12_taker, .instanceMethod yX12_taker, .selects RX12 yX12_taker yX12_taker, .fieldLink RX12 473 "HookPierModel" "crabsNow" "I"]) (gd_app qsX12 (gd_app qsX11 (gd_app qfX11_isClose (gd_app qfX12_isTangled qfX12_taker)))))
theorem gfX12_goesBy_0 : GoodIn vfX12_goesBy (wsV RX12 341 RX11 yX11_isClose vfX11_isClose) := goodIn_app (goodIn_r [.methodLink RX12 341 yX11_isClose, .instanceMethod yX11_isClose, .selects RX11 yX11_isClose yX11_isClose, .initialized RX11] [2, 3, 4, 5] rfl (by decide +kernel)) (goodIn_m (fun _ h => (List.mem_cons_of_mem _ (List.mem_append_right _ (List.mem_append_right _ (List.mem_append_right _ (List.mem_append_left _ h)))))) qfX11_isClose)
theorem gfX12_goesBy_1 : GoodIn vfX12_goesBy (wsV RX12 337 RX12 yX12_isTangled vfX12_isTangled) := goodIn_app (goodIn_r [.methodLink RX12 337 yX12_isTangled, .instanceMethod yX12_isTangled, .selects RX12 yX12_isTangled yX12_isTangled, .initialized RX12] [6, 7, 8, 9] rfl (by decide +kernel)) (goodIn_m (fun _ h => (List.mem_cons_of_mem _ (List.mem_append_right _ (List.mem_append_right _ (List.mem_append_right _ (List.mem_append_right _ (List.mem_append_left _ h))))))) qfX12_isTangled)
theorem gfX12_goesBy_2 : GoodIn vfX12_goesBy (wsV RX12 469 RX12 yX12_taker vfX12_taker) := goodIn_app (goodIn_r [.methodLink RX12 469 yX12_taker, .instanceMethod yX12_taker, .selects RX12 yX12_taker yX12_taker, .initialized RX12] [10, 11, 12, 9] rfl (by decide +kernel)) (goodIn_m (fun _ h => (List.mem_cons_of_mem _ (List.mem_append_right _ (List.mem_append_right _ (List.mem_append_right _ (List.mem_append_right _ (List.mem_append_right _ h))))))) qfX12_taker)
set_option maxHeartbeats 2000000 in
set_option maxRecDepth 100000 in
theorem kfX12_goesBy (l : Launch) (dC : Nat → ClassId) (dI : Nat → Nat → Nat) (a0 : Nat) (a1 : Nat) (a2 : Nat) (uq : Nat → Nat) (kq : Nat → ClassId) (m_v : TX12_v) (m_c : TX12_c) (g7 : Value) (g8 : Value) (g9 : Value) (g10 : Value) (g11 : Value) (g12 : Value) (g13 : Value) (g14 : Value) (g15 : Value) (g16 : Value) (g17 : Value) (g18 : Value) (g19 : Value) (g20 : Value) (g21 : Value) (g22 : Value) (g23 : Value) (g24 : Value) (g25 : Value) (g26 : Value) (g27 : Value) (g28 : Value) (g29 : Value) (g30 : Value) (g31 : Value) (q_q : TX11_q) (cB33 : ClassId) (sz : Nat) (out : (Int32 × TX12_v × TX12_c)) (h : f_X12_goesBy m_v m_c q_q = some out) : KCi l yX12_goesBy vfX12_goesBy ({ frames := 5, cells := 0, slots := 0, locals := 116 }) (dC, dI) [.ref a0, .ref a1] sz ((a0, .inr (9, [g7, g8, g9, .ref a2, g10, g11, g12, g13, g14, g15, g16, g17, g18, g19, g20, .ref a1, g21, g22, g23, g24, g25, g26, g27, g28, g29, g30, g31, .int m_c.1, .int m_c.2.1, .int m_c.2.2])) :: bX11 a2 uq kq q_q ([(a1, .inl (cB33, 26, .inl m_v))])) (tX11 kq ((cB33, .int) :: [])) (fun (r : Int32) _ => r = out.1) ((a0, .inr (9, [g7, g8, g9, .ref a2, g10, g11, g12, g13, g14, g15, g16, g17, g18, g19, g20, .ref a1, g21, g22, g23, g24, g25, g26, g27, g28, g29, g30, g31, .int out.2.2.1, .int out.2.2.2.1, .int out.2.2.2.2])) :: bX11 a2 uq kq q_q ([(a1, .inl (cB33, 26, .inl out.2.1))])) 0 0 := by
  refine Met.ofW (cc := cX12_goesBy) (maxL := 5) (ret := (some .int)) (by decide) rfl ?_
  intro p e s m args below meth c s₁ B0 hml hv
  obtain ⟨rfl, hsz, hP, hK, hD0, hN⟩ := hv
  have hx := B0.exec
  have hb := B0.bytes
  have hr := B0.returns
  have hts := atoms_spec (ws := vfX12_goesBy) B0.pre
  have hown : s.vm.findClass RX12 = some m.cls := findClass_of_methodNamed B0.named
  have hlocks := B0.notSynchronized
  subst hsz
  have hD := hD0.self (sz := s.heap.size)
  generalize hAe : va_A ((a0, .inr (9, [g7, g8, g9, .ref a2, g10, g11, g12, g13, g14, g15, g16, g17, g18, g19, g20, .ref a1, g21, g22, g23, g24, g25, g26, g27, g28, g29, g30, g31, .int m_c.1, .int m_c.2.1, .int m_c.2.2])) :: bX11 a2 uq kq q_q ([(a1, .inl (cB33, 26, .inl m_v))])) s.heap.size = A at hD ⊢
  have hA : ∀ q : Nat, s.heap.size ≤ q → A q := fun q h => by rw [← hAe]; exact Or.inr h
  have hS : va_S A s.heap s.heap [] := va_S.rf
  have hP : va_P (dC, dI) vwCl ((a0, .inr (9, [g7, g8, g9, .ref a2, g10, g11, g12, g13, g14, g15, g16, g17, g18, g19, g20, .ref a1, g21, g22, g23, g24, g25, g26, g27, g28, g29, g30, g31, .int m_c.1, .int m_c.2.1, .int m_c.2.2])) :: bX11 a2 uq kq q_q ([(a1, .inl (cB33, 26, .inl m_v))])) s.heap := hP
  have hl := lv_entry ([.ref a0, .ref a1]) (n := 5) (Nat.le_of_ble_eq_true rfl)
  rw [lg_entry_eq]
  generalize (lg_sl ([.ref a0, .ref a1]) ++ List.replicate (5 - (lg_sl ([.ref a0, .ref a1])).length) Slot.unset).toArray = ls at hl ⊢
  have hl : lv_has ls 5 [(0, .ref a0), (1, .ref a1)] := hl
  refine W_q (fun QQ hQQ => ?_)
  rw [f_X12_goesBy] at h
  refine lv_iconst (v := 0) hx hb (zat zrX12_goesBy_0_ok 0 rfl) (by decide) ?_
  refine lv_istore_n (lv' := [(2, .int 0), (0, .ref a0), (1, .ref a1)]) hx hb (zat zrX12_goesBy_0_ok 1 rfl) rfl hl (by decide) rfl (fun ls hl => ?_)
  refine lv_iconst (v := 0) hx hb (zat zrX12_goesBy_0_ok 2 rfl) (by decide) ?_
  refine lv_istore_n (lv' := [(3, .int 0), (2, .int 0), (0, .ref a0), (1, .ref a1)]) hx hb (zat zrX12_goesBy_0_ok 3 rfl) rfl hl (by decide) rfl (fun ls hl => ?_)
  have L4 : ∀ (n4 : Nat) (v4_l3 : Int32) (v4_l2 : Int32) (v4_m_v : TX12_v) (v4_m_c : TX12_c) (H : Heap) (locs : List Loc) (ls : Array Slot), f_X12_goesBy_L4 q_q n4 v4_l3 v4_l2 v4_m_v v4_m_c = some out → va_P (dC, dI) vwCl ((a0, .inr (9, [g7, g8, g9, .ref a2, g10, g11, g12, g13, g14, g15, g16, g17, g18, g19, g20, .ref a1, g21, g22, g23, g24, g25, g26, g27, g28, g29, g30, g31, .int v4_m_c.1, .int v4_m_c.2.1, .int v4_m_c.2.2])) :: bX11 a2 uq kq q_q ([(a1, .inl (cB33, 26, .inl v4_m_v))])) H → va_D A ((a0, .inr (9, [g7, g8, g9, .ref a2, g10, g11, g12, g13, g14, g15, g16, g17, g18, g19, g20, .ref a1, g21, g22, g23, g24, g25, g26, g27, g28, g29, g30, g31, .int v4_m_c.1, .int v4_m_c.2.1, .int v4_m_c.2.2])) :: bX11 a2 uq kq q_q ([(a1, .inl (cB33, 26, .inl v4_m_v))])) → va_S A s.heap H locs → lv_has ls 5 [(3, .int v4_l3), (2, .int v4_l2), (0, .ref a0), (1, .ref a1)] → W p l e (headSpec vfX12_goesBy { frames := 5, cells := 0, slots := 0, locals := 116 }).room s m ([.ref a0, .ref a1]).toArray below meth c H locs 0 0 QQ (F0 m 4 ls []) := by
    intro n4
    induction n4 with
    | zero =>
      intro v4_l3 v4_l2 v4_m_v v4_m_c H locs ls h  _ _ _ _
      rw [f_X12_goesBy_L4] at h
      cases h
    | succ n4 ih4 =>
      intro v4_l3 v4_l2 v4_m_v v4_m_c H locs ls h  hP hD hS hl
      rw [f_X12_goesBy_L4] at h
      refine lv_iload_n hx hb (zat zrX12_goesBy_0_ok 4 rfl) rfl (lv_at hl 0 rfl) ?_
      refine lv_aload_n hx hb (zat zrX12_goesBy_0_ok 5 rfl) rfl (lv_at hl 2 rfl) ?_
      refine va_get (D := (dC, dI)) (ci := 9) (v := .ref a2) (C := RX12) (T := TX12) (N := 30) hx hb hts ifX12_goesBy_X12 hown hK hP 0 rfl rfl 3 (by decide) (hts (.fieldLink RX12 299 "HookPierModel" "pier" "LHookPierModel$Pier;") (List.mem_of_getElem? (i := 1) rfl)) (fun _ h9 => h9) rfl (zat zrX12_goesBy_0_ok 6 rfl) ?_
      refine va_getN (D := (dC, dI)) (ci := 8) (v := .int q_q.2.2.2.2.2.1) (C := RX11) (T := TX11) (N := 24) hx hb hts ifX12_goesBy_X11 hown hK hP 1 rfl rfl 5 (by decide) (va_Nw.use rfl (hN.1 (.fieldLinkNest RX12 224 "HookPierModel$Pier" "askers" "I" "HookPierModel") (List.mem_of_getElem? (i := 27) rfl))) (fun _ h9 => h9) rfl (zat zrX12_goesBy_0_ok 7 rfl) ?_
      have J149 : ∀ (H : Heap) (locs : List Loc) (ls : Array Slot), f_X12_goesBy_J149 v4_l2 v4_m_c v4_m_v = some out → va_P (dC, dI) vwCl ((a0, .inr (9, [g7, g8, g9, .ref a2, g10, g11, g12, g13, g14, g15, g16, g17, g18, g19, g20, .ref a1, g21, g22, g23, g24, g25, g26, g27, g28, g29, g30, g31, .int v4_m_c.1, .int v4_m_c.2.1, .int v4_m_c.2.2])) :: bX11 a2 uq kq q_q ([(a1, .inl (cB33, 26, .inl v4_m_v))])) H → va_D A ((a0, .inr (9, [g7, g8, g9, .ref a2, g10, g11, g12, g13, g14, g15, g16, g17, g18, g19, g20, .ref a1, g21, g22, g23, g24, g25, g26, g27, g28, g29, g30, g31, .int v4_m_c.1, .int v4_m_c.2.1, .int v4_m_c.2.2])) :: bX11 a2 uq kq q_q ([(a1, .inl (cB33, 26, .inl v4_m_v))])) → va_S A s.heap H locs → lv_has ls 5 [(2, .int v4_l2), (1, .ref a1)] → W p l e (headSpec vfX12_goesBy { frames := 5, cells := 0, slots := 0, locals := 116 }).room s m ([.ref a0, .ref a1]).toArray below meth c H locs 0 0 QQ (F0 m 149 ls []) := by
        intro  H locs ls h  hP hD hS hl
        rw [f_X12_goesBy_J149] at h
        refine lv_aload_n hx hb (zat zrX12_goesBy_1_ok 26 rfl) rfl (lv_at hl 1 rfl) ?_
        refine lv_bipush (v := 23) hx hb (zat zrX12_goesBy_1_ok 27 rfl) (by decide) ?_
        refine lv_dup2_11 hx hb (zat zrX12_goesBy_1_ok 28 rfl) rfl rfl ?_
        refine va_iald hx hb hK hP 16 14 rfl rfl (by unfold vp_in; decide) (zat zrX12_goesBy_1_ok 29 rfl) ?_
        refine lv_iconst (v := 1) hx hb (zat zrX12_goesBy_1_ok 30 rfl) (by decide) ?_
        refine lv_iadd hx hb (zat zrX12_goesBy_1_ok 31 rfl) ?_
        refine va_iast hx hb hK hP hD hS 16 14 rfl rfl (by unfold vp_in; decide) (zat zrX12_goesBy_1_ok 32 rfl) (fun H locs hP hD hS => ?_)
        obtain ⟨hP, hD⟩ := pd_mk ((a0, .inr (9, [g7, g8, g9, .ref a2, g10, g11, g12, g13, g14, g15, g16, g17, g18, g19, g20, .ref a1, g21, g22, g23, g24, g25, g26, g27, g28, g29, g30, g31, .int v4_m_c.1, .int v4_m_c.2.1, .int v4_m_c.2.2])) :: bX11 a2 uq kq q_q ([(a1, .inl (cB33, 26, .inl (upd v4_m_v ((23 : Int32)).toNatClampNeg ((v4_m_v ((23 : Int32)).toNatClampNeg) + (1 : Int32)))))])) hP hD
        refine lv_iload_n hx hb (zat zrX12_goesBy_1_ok 33 rfl) rfl (lv_at hl 0 rfl) ?_
        obtain rfl := Option.some.inj h
        obtain ⟨hP9, hD9⟩ := pd_sub ((a0, .inr (9, [g7, g8, g9, .ref a2, g10, g11, g12, g13, g14, g15, g16, g17, g18, g19, g20, .ref a1, g21, g22, g23, g24, g25, g26, g27, g28, g29, g30, g31, .int v4_m_c.1, .int v4_m_c.2.1, .int v4_m_c.2.2])) :: bX11 a2 uq kq q_q ([(a1, .inl (cB33, 26, .inl (upd v4_m_v ((23 : Int32)).toNatClampNeg ((v4_m_v ((23 : Int32)).toNatClampNeg) + (1 : Int32)))))])) [0, 1, 2, 3, 4, 5, 6, 7, 8, 9, 10, 11, 12, 13, 14, 15, 16] hP hD (by decide) rfl
        have hK9 := hK.sub (tys' := []) [] rfl
        rw [hQQ]
        exact W.iret (v := v4_l2) hx hb hr (fun t ht hW => ⟨⟨v4_l2, (), rfl, rfl, by rw [ht]; exact hP9, va_K.moved hW.alike hK9, hD9⟩, hS.F ht⟩) hS.2.2 (zat zrX12_goesBy_1_ok 34 rfl)
      refine lv_icmp_ge (tgt := 149) hx hb (zat zrX12_goesBy_0_ok 8 rfl) (by decide) (fun c12 => ?_) (fun c12 => ?_)
      · have h := (if_pos c12).symm.trans h
        exact J149  H _ ls h  hP hD hS (lv_sub hl [1, 3] rfl)
      · have h := (if_neg c12).symm.trans h
        refine lv_aload_n hx hb (zat zrX12_goesBy_0_ok 9 rfl) rfl (lv_at hl 2 rfl) ?_
        refine va_get (D := (dC, dI)) (ci := 9) (v := .ref a2) (C := RX12) (T := TX12) (N := 30) hx hb hts ifX12_goesBy_X12 hown hK hP 0 rfl rfl 3 (by decide) (hts (.fieldLink RX12 299 "HookPierModel" "pier" "LHookPierModel$Pier;") (List.mem_of_getElem? (i := 1) rfl)) (fun _ h9 => h9) rfl (zat zrX12_goesBy_0_ok 10 rfl) ?_
        refine lv_aload_n hx hb (zat zrX12_goesBy_0_ok 11 rfl) rfl (lv_at hl 3 rfl) ?_
        refine lv_bipush (v := 23) hx hb (zat zrX12_goesBy_0_ok 12 rfl) (by decide) ?_
        refine va_iald hx hb hK hP 16 14 rfl rfl (by unfold vp_in; decide) (zat zrX12_goesBy_0_ok 13 rfl) ?_
        obtain ⟨o23, eo23⟩ : ∃ o, o = f_X11_isClose (v4_m_v ((23 : Int32)).toNatClampNeg) q_q := ⟨_, rfl⟩
        have h := nm_of h o23 eo23
        refine ck_i (wc := (bX11 a2 uq kq q_q [])) (wr := ([(a0, .inr (9, [g7, g8, g9, .ref a2, g10, g11, g12, g13, g14, g15, g16, g17, g18, g19, g20, .ref a1, g21, g22, g23, g24, g25, g26, g27, g28, g29, g30, g31, .int v4_m_c.1, .int v4_m_c.2.1, .int v4_m_c.2.2])), (a1, .inl (cB33, 26, .inl v4_m_v))])) hP hD hK hS hA [1, 2, 3, 4, 5, 6, 7, 8, 9, 10, 11, 12, 13, 14, 15] [0, 16] rfl rfl (by decide) (by decide) (by decide) (fun hPc hDc => (va_runV (As := [.int (v4_m_v ((23 : Int32)).toNatClampNeg)]) (rest := []) ⟨hx, hb, hml, hown, hts⟩ (kfX11_isClose l dC dI a2 (v4_m_v ((23 : Int32)).toNatClampNeg) uq kq q_q H.size o23 eo23.symm) (cwV 1 hts gfX12_goesBy_0 rfl rfl rfl (by decide +kernel) ⟨(Nat.le_of_ble_eq_true rfl), (Nat.le_of_ble_eq_true rfl)⟩) (PV hPc (hK.sub (tys' := (tX11 kq ([]))) [0, 1, 2, 3, 4, 5, 6, 7, 8, 9, 10, 11, 12, 13] rfl) hDc hN 0 rfl rfl) rfl rfl hl.1 rfl (lv_room (Nat.le_of_ble_eq_true rfl)) (zat zrX12_goesBy_0_ok 14 rfl) ⟨(Nat.le_of_ble_eq_true rfl), (Nat.le_of_ble_eq_true rfl)⟩)) (fun r23 _ H locs hw hP hD _ hS => ?_)
        obtain ⟨hw, br23⟩ := hw
        obtain rfl := hw.symm
        obtain ⟨hP, hD⟩ := pd_mk ((a0, .inr (9, [g7, g8, g9, .ref a2, g10, g11, g12, g13, g14, g15, g16, g17, g18, g19, g20, .ref a1, g21, g22, g23, g24, g25, g26, g27, g28, g29, g30, g31, .int v4_m_c.1, .int v4_m_c.2.1, .int v4_m_c.2.2])) :: (a1, .inl (cB33, 26, .inl v4_m_v)) :: bX11 a2 uq kq q_q []) hP hD
        refine lv_if_ne (tgt := 149) hx hb (zat zrX12_goesBy_0_ok 15 rfl) (by decide) (fun c26 => ?_) (fun c26 => ?_)
        · have h := (if_neg c26).symm.trans h
          exact J149  H _ ls h  (hP.sub (ws' := ((a0, .inr (9, [g7, g8, g9, .ref a2, g10, g11, g12, g13, g14, g15, g16, g17, g18, g19, g20, .ref a1, g21, g22, g23, g24, g25, g26, g27, g28, g29, g30, g31, .int v4_m_c.1, .int v4_m_c.2.1, .int v4_m_c.2.2])) :: bX11 a2 uq kq q_q ([(a1, .inl (cB33, 26, .inl v4_m_v))]))) [0, 2, 3, 4, 5, 6, 7, 8, 9, 10, 11, 12, 13, 14, 15, 16, 1] rfl) (hD.sub (ws' := ((a0, .inr (9, [g7, g8, g9, .ref a2, g10, g11, g12, g13, g14, g15, g16, g17, g18, g19, g20, .ref a1, g21, g22, g23, g24, g25, g26, g27, g28, g29, g30, g31, .int v4_m_c.1, .int v4_m_c.2.1, .int v4_m_c.2.2])) :: bX11 a2 uq kq q_q ([(a1, .inl (cB33, 26, .inl v4_m_v))]))) [0, 2, 3, 4, 5, 6, 7, 8, 9, 10, 11, 12, 13, 14, 15, 16, 1] (by decide) rfl) hS (lv_sub hl [1, 3] rfl)
        · have h := (if_pos c26).symm.trans h
          refine lv_aload_n hx hb (zat zrX12_goesBy_0_ok 16 rfl) rfl (lv_at hl 3 rfl) ?_
          refine lv_bipush (v := 18) hx hb (zat zrX12_goesBy_0_ok 17 rfl) (by decide) ?_
          refine lv_iload_n hx hb (zat zrX12_goesBy_0_ok 18 rfl) rfl (lv_at hl 0 rfl) ?_
          refine lv_iadd hx hb (zat zrX12_goesBy_0_ok 19 rfl) ?_
          obtain ⟨hg34, h⟩ := gA_of h
          refine va_iald hx hb hK hP 1 14 rfl rfl hg34 (zat zrX12_goesBy_0_ok 20 rfl) ?_
          refine lv_bipush (v := (-2)) hx hb (zat zrX12_goesBy_0_ok 21 rfl) (by decide) ?_
          have J143 : ∀ (v143_l2 : Int32) (v143_m_v : TX12_v) (v143_m_c : TX12_c) (H : Heap) (locs : List Loc) (ls : Array Slot), f_X12_goesBy_J143 (f_X12_goesBy_L4 q_q n4) v4_l3 v143_l2 v143_m_v v143_m_c = some out → va_P (dC, dI) vwCl ((a0, .inr (9, [g7, g8, g9, .ref a2, g10, g11, g12, g13, g14, g15, g16, g17, g18, g19, g20, .ref a1, g21, g22, g23, g24, g25, g26, g27, g28, g29, g30, g31, .int v143_m_c.1, .int v143_m_c.2.1, .int v143_m_c.2.2])) :: (a1, .inl (cB33, 26, .inl v143_m_v)) :: bX11 a2 uq kq q_q []) H → va_D A ((a0, .inr (9, [g7, g8, g9, .ref a2, g10, g11, g12, g13, g14, g15, g16, g17, g18, g19, g20, .ref a1, g21, g22, g23, g24, g25, g26, g27, g28, g29, g30, g31, .int v143_m_c.1, .int v143_m_c.2.1, .int v143_m_c.2.2])) :: (a1, .inl (cB33, 26, .inl v143_m_v)) :: bX11 a2 uq kq q_q []) → va_S A s.heap H locs → lv_has ls 5 [(3, .int v4_l3), (2, .int v143_l2), (0, .ref a0), (1, .ref a1)] → W p l e (headSpec vfX12_goesBy { frames := 5, cells := 0, slots := 0, locals := 116 }).room s m ([.ref a0, .ref a1]).toArray below meth c H locs 0 0 QQ (F0 m 143 ls []) := by
            intro v143_l2 v143_m_v v143_m_c H locs ls h  hP hD hS hl
            rw [f_X12_goesBy_J143] at h
            refine lv_iinc (v := (v4_l3 + (1 : Int32))) (lv' := [(3, .int (v4_l3 + (1 : Int32))), (2, .int v143_l2), (0, .ref a0), (1, .ref a1)]) hx hb (zat zrX12_goesBy_1_ok 24 rfl) hl (k := 0) rfl rfl (by decide) rfl (fun ls hl => ?_)
            refine lv_goto (tgt := 4) hx hb (zat zrX12_goesBy_1_ok 25 rfl) (by decide) ?_
            exact ih4 (v4_l3 + (1 : Int32)) v143_l2 v143_m_v v143_m_c H _ ls h  (hP.sub (ws' := ((a0, .inr (9, [g7, g8, g9, .ref a2, g10, g11, g12, g13, g14, g15, g16, g17, g18, g19, g20, .ref a1, g21, g22, g23, g24, g25, g26, g27, g28, g29, g30, g31, .int v143_m_c.1, .int v143_m_c.2.1, .int v143_m_c.2.2])) :: bX11 a2 uq kq q_q ([(a1, .inl (cB33, 26, .inl v143_m_v))]))) [0, 2, 3, 4, 5, 6, 7, 8, 9, 10, 11, 12, 13, 14, 15, 16, 1] rfl) (hD.sub (ws' := ((a0, .inr (9, [g7, g8, g9, .ref a2, g10, g11, g12, g13, g14, g15, g16, g17, g18, g19, g20, .ref a1, g21, g22, g23, g24, g25, g26, g27, g28, g29, g30, g31, .int v143_m_c.1, .int v143_m_c.2.1, .int v143_m_c.2.2])) :: bX11 a2 uq kq q_q ([(a1, .inl (cB33, 26, .inl v143_m_v))]))) [0, 2, 3, 4, 5, 6, 7, 8, 9, 10, 11, 12, 13, 14, 15, 16, 1] (by decide) rfl) hS (lv_sub hl [0, 1, 2, 3] rfl)
          refine lv_icmp_eq (tgt := 143) hx hb (zat zrX12_goesBy_0_ok 22 rfl) (by decide) (fun c37 => ?_) (fun c37 => ?_)
          · have h := (if_pos c37).symm.trans h
            exact J143 v4_l2 v4_m_v v4_m_c H _ ls h  hP hD hS (lv_sub hl [0, 1, 2, 3] rfl)
          · have h := (if_neg c37).symm.trans h
            refine lv_aload_n hx hb (zat zrX12_goesBy_0_ok 23 rfl) rfl (lv_at hl 2 rfl) ?_
            refine lv_aload_n hx hb (zat zrX12_goesBy_0_ok 24 rfl) rfl (lv_at hl 3 rfl) ?_
            refine lv_iload_n hx hb (zat zrX12_goesBy_0_ok 25 rfl) rfl (lv_at hl 0 rfl) ?_
            obtain ⟨o43, eo43, h⟩ := bd_of h
            refine ck_i (wc := ((a0, .inr (9, [g7, g8, g9, .ref a2, g10, g11, g12, g13, g14, g15, g16, g17, g18, g19, g20, .ref a1, g21, g22, g23, g24, g25, g26, g27, g28, g29, g30, g31, .int v4_m_c.1, .int v4_m_c.2.1, .int v4_m_c.2.2])) :: bX11 a2 uq kq q_q ([(a1, .inl (cB33, 26, .inl v4_m_v))]))) (wr := []) hP hD hK hS hA [0, 2, 3, 4, 5, 6, 7, 8, 9, 10, 11, 12, 13, 14, 15, 16, 1] [] rfl rfl (by decide) (by decide) (by decide) (fun hPc hDc => (va_runV (As := [.ref a1, .int v4_l3]) (rest := []) ⟨hx, hb, hml, hown, hts⟩ (kfX12_isTangled l dC dI a0 a1 v4_l3 a2 uq kq v4_m_v (g7) (g8) (g9) (g10) (g11) (g12) (g13) (g14) (g15) (g16) (g17) (g18) (g19) (g20) (g21) (g22) (g23) (g24) (g25) (g26) (g27) (g28) (g29) (g30) (g31) (.int v4_m_c.1) (.int v4_m_c.2.1) (.int v4_m_c.2.2) q_q cB33 H.size o43 eo43) (cwV 2 hts gfX12_goesBy_1 rfl rfl rfl (by decide +kernel) ⟨(Nat.le_of_ble_eq_true rfl), (Nat.le_of_ble_eq_true rfl)⟩) (PV hPc (hK.sub (tys' := (tX11 kq ((cB33, .int) :: []))) [0, 1, 2, 3, 4, 5, 6, 7, 8, 9, 10, 11, 12, 13, 14] rfl) hDc hN 0 rfl rfl) rfl rfl hl.1 rfl (lv_room (Nat.le_of_ble_eq_true rfl)) (zat zrX12_goesBy_0_ok 26 rfl) ⟨(Nat.le_of_ble_eq_true rfl), (Nat.le_of_ble_eq_true rfl)⟩)) (fun r43 _ H locs hw hP hD _ hS => ?_)
            obtain ⟨hw, br43⟩ := hw
            obtain rfl := hw.symm
            obtain ⟨hP, hD⟩ := pd_mk ((a0, .inr (9, [g7, g8, g9, .ref a2, g10, g11, g12, g13, g14, g15, g16, g17, g18, g19, g20, .ref a1, g21, g22, g23, g24, g25, g26, g27, g28, g29, g30, g31, .int v4_m_c.1, .int v4_m_c.2.1, .int v4_m_c.2.2])) :: bX11 a2 uq kq q_q ([(a1, .inl (cB33, 26, .inl v4_m_v))])) hP hD
            refine lv_if_eq (tgt := 52) hx hb (zat zrX12_goesBy_0_ok 27 rfl) (by decide) (fun c46 => ?_) (fun c46 => ?_)
            · have h := (if_pos c46).symm.trans h
              refine lv_aload_n hx hb (zat zrX12_goesBy_0_ok 29 rfl) rfl (lv_at hl 2 rfl) ?_
              refine lv_aload_n hx hb (zat zrX12_goesBy_0_ok 30 rfl) rfl (lv_at hl 3 rfl) ?_
              refine lv_aload_n hx hb (zat zrX12_goesBy_0_ok 31 rfl) rfl (lv_at hl 3 rfl) ?_
              refine lv_bipush (v := 18) hx hb (zat zrX12_goesBy_0_ok 32 rfl) (by decide) ?_
              refine lv_iload_n hx hb (zat zrX12_goesBy_0_ok 33 rfl) rfl (lv_at hl 0 rfl) ?_
              refine lv_iadd hx hb (zat zrX12_goesBy_0_ok 34 rfl) ?_
              obtain ⟨hg59, h⟩ := gA_of h
              refine va_iald hx hb hK hP 16 14 rfl rfl hg59 (zat zrX12_goesBy_0_ok 35 rfl) ?_
              obtain ⟨o60, eo60, h⟩ := bd_of h
              refine ck_i (wc := ((a0, .inr (9, [g7, g8, g9, .ref a2, g10, g11, g12, g13, g14, g15, g16, g17, g18, g19, g20, .ref a1, g21, g22, g23, g24, g25, g26, g27, g28, g29, g30, g31, .int v4_m_c.1, .int v4_m_c.2.1, .int v4_m_c.2.2])) :: bX11 a2 uq kq q_q ([(a1, .inl (cB33, 26, .inl v4_m_v))]))) (wr := []) hP hD hK hS hA [0, 1, 2, 3, 4, 5, 6, 7, 8, 9, 10, 11, 12, 13, 14, 15, 16] [] rfl rfl (by decide) (by decide) (by decide) (fun hPc hDc => (va_runV (As := [.ref a1, .int (v4_m_v (((18 : Int32) + v4_l3)).toNatClampNeg)]) (rest := []) ⟨hx, hb, hml, hown, hts⟩ (kfX12_taker l dC dI a0 a1 (v4_m_v (((18 : Int32) + v4_l3)).toNatClampNeg) a2 uq kq v4_m_v (g7) (g8) (g9) (g10) (g11) (g12) (g13) (g14) (g15) (g16) (g17) (g18) (g19) (g20) (g21) (g22) (g23) (g24) (g25) (g26) (g27) (g28) (g29) (g30) (g31) (.int v4_m_c.1) (.int v4_m_c.2.1) (.int v4_m_c.2.2) q_q cB33 H.size o60 eo60) (cwV 2 hts gfX12_goesBy_2 rfl rfl rfl (by decide +kernel) ⟨(Nat.le_of_ble_eq_true rfl), (Nat.le_of_ble_eq_true rfl)⟩) (PV hPc (hK.sub (tys' := (tX11 kq ((cB33, .int) :: []))) [0, 1, 2, 3, 4, 5, 6, 7, 8, 9, 10, 11, 12, 13, 14] rfl) hDc hN 0 rfl rfl) rfl rfl hl.1 rfl (lv_room (Nat.le_of_ble_eq_true rfl)) (zat zrX12_goesBy_0_ok 36 rfl) ⟨(Nat.le_of_ble_eq_true rfl), (Nat.le_of_ble_eq_true rfl)⟩)) (fun r60 _ H locs hw hP hD _ hS => ?_)
              obtain rfl := hw
              obtain ⟨hP, hD⟩ := pd_mk ((a0, .inr (9, [g7, g8, g9, .ref a2, g10, g11, g12, g13, g14, g15, g16, g17, g18, g19, g20, .ref a1, g21, g22, g23, g24, g25, g26, g27, g28, g29, g30, g31, .int v4_m_c.1, .int v4_m_c.2.1, .int v4_m_c.2.2])) :: bX11 a2 uq kq q_q ([(a1, .inl (cB33, 26, .inl o60.2))])) hP hD
              refine lv_istore (lv' := [(4, .int o60.1), (3, .int v4_l3), (2, .int v4_l2), (0, .ref a0), (1, .ref a1)]) hx hb (zat zrX12_goesBy_0_ok 37 rfl) hl (by decide) rfl (fun ls hl => ?_)
              refine lv_iload hx hb (zat zrX12_goesBy_0_ok 38 rfl) (lv_at hl 0 rfl) ?_
              refine lv_bipush (v := (-2)) hx hb (zat zrX12_goesBy_0_ok 39 rfl) (by decide) ?_
              refine lv_icmp_ne (tgt := 75) hx hb (zat zrX12_goesBy_0_ok 40 rfl) (by decide) (fun c69 => ?_) (fun c69 => ?_)
              · have h := (if_neg c69).symm.trans h
                refine lv_aload_n hx hb (zat zrX12_goesBy_0_ok 42 rfl) rfl (lv_at hl 4 rfl) ?_
                refine lv_bipush (v := 18) hx hb (zat zrX12_goesBy_0_ok 43 rfl) (by decide) ?_
                refine lv_iload_n hx hb (zat zrX12_goesBy_0_ok 44 rfl) rfl (lv_at hl 1 rfl) ?_
                refine lv_iadd hx hb (zat zrX12_goesBy_0_ok 45 rfl) ?_
                refine lv_bipush (v := (-2)) hx hb (zat zrX12_goesBy_0_ok 46 rfl) (by decide) ?_
                obtain ⟨hg82, h⟩ := gA_of h
                refine va_iast hx hb hK hP hD hS 16 14 rfl rfl hg82 (zat zrX12_goesBy_0_ok 47 rfl) (fun H locs hP hD hS => ?_)
                obtain ⟨hP, hD⟩ := pd_mk ((a0, .inr (9, [g7, g8, g9, .ref a2, g10, g11, g12, g13, g14, g15, g16, g17, g18, g19, g20, .ref a1, g21, g22, g23, g24, g25, g26, g27, g28, g29, g30, g31, .int v4_m_c.1, .int v4_m_c.2.1, .int v4_m_c.2.2])) :: bX11 a2 uq kq q_q ([(a1, .inl (cB33, 26, .inl (upd o60.2 (((18 : Int32) + v4_l3)).toNatClampNeg (-2 : Int32))))])) hP hD
                refine lv_aload_n hx hb (zat zrX12_goesBy_0_ok 48 rfl) rfl (lv_at hl 3 rfl) ?_
                refine va_get (D := (dC, dI)) (ci := 9) (v := .ref a2) (C := RX12) (T := TX12) (N := 30) hx hb hts ifX12_goesBy_X12 hown hK hP 0 rfl rfl 3 (by decide) (hts (.fieldLink RX12 299 "HookPierModel" "pier" "LHookPierModel$Pier;") (List.mem_of_getElem? (i := 1) rfl)) (fun _ h9 => h9) rfl (zat zrX12_goesBy_0_ok 49 rfl) ?_
                refine va_getN (D := (dC, dI)) (ci := 8) (v := .ref (uq 1)) (C := RX11) (T := TX11) (N := 24) hx hb hts ifX12_goesBy_X11 hown hK hP 1 rfl rfl 11 (by decide) (va_Nw.use rfl (hN.1 (.fieldLinkNest RX12 256 "HookPierModel$Pier" "kind" "[I" "HookPierModel") (List.mem_of_getElem? (i := 33) rfl))) (fun _ h9 => h9) rfl (zat zrX12_goesBy_0_ok 50 rfl) ?_
                refine lv_iload hx hb (zat zrX12_goesBy_0_ok 51 rfl) (lv_at hl 0 rfl) ?_
                obtain ⟨hg92, h⟩ := gA_of h
                refine va_iald hx hb hK hP 3 1 rfl rfl hg92 (zat zrX12_goesBy_0_ok 52 rfl) ?_
                refine lv_iconst (v := 2) hx hb (zat zrX12_goesBy_0_ok 53 rfl) (by decide) ?_
                refine lv_icmp_ne (tgt := 110) hx hb (zat zrX12_goesBy_0_ok 54 rfl) (by decide) (fun c94 => ?_) (fun c94 => ?_)
                · have h := (if_neg c94).symm.trans h
                  refine lv_aload_n hx hb (zat zrX12_goesBy_0_ok 62 rfl) rfl (lv_at hl 4 rfl) ?_
                  refine lv_iconst (v := 0) hx hb (zat zrX12_goesBy_0_ok 63 rfl) (by decide) ?_
                  refine lv_iload hx hb (zat zrX12_goesBy_1_ok 0 rfl) (lv_at hl 0 rfl) ?_
                  refine lv_iadd hx hb (zat zrX12_goesBy_1_ok 1 rfl) ?_
                  refine lv_iconst (v := 1) hx hb (zat zrX12_goesBy_1_ok 2 rfl) (by decide) ?_
                  obtain ⟨hg116, h⟩ := gA_of h
                  refine va_iast hx hb hK hP hD hS 16 14 rfl rfl hg116 (zat zrX12_goesBy_1_ok 3 rfl) (fun H locs hP hD hS => ?_)
                  obtain ⟨hP, hD⟩ := pd_mk ((a0, .inr (9, [g7, g8, g9, .ref a2, g10, g11, g12, g13, g14, g15, g16, g17, g18, g19, g20, .ref a1, g21, g22, g23, g24, g25, g26, g27, g28, g29, g30, g31, .int v4_m_c.1, .int v4_m_c.2.1, .int v4_m_c.2.2])) :: bX11 a2 uq kq q_q ([(a1, .inl (cB33, 26, .inl (upd (upd o60.2 (((18 : Int32) + v4_l3)).toNatClampNeg (-2 : Int32)) (((0 : Int32) + o60.1)).toNatClampNeg (1 : Int32))))])) hP hD
                  refine lv_aload_n hx hb (zat zrX12_goesBy_1_ok 4 rfl) rfl (lv_at hl 4 rfl) ?_
                  refine lv_bipush (v := 6) hx hb (zat zrX12_goesBy_1_ok 5 rfl) (by decide) ?_
                  refine lv_iload hx hb (zat zrX12_goesBy_1_ok 6 rfl) (lv_at hl 0 rfl) ?_
                  refine lv_iadd hx hb (zat zrX12_goesBy_1_ok 7 rfl) ?_
                  refine lv_aload_n hx hb (zat zrX12_goesBy_1_ok 8 rfl) rfl (lv_at hl 4 rfl) ?_
                  refine lv_bipush (v := 23) hx hb (zat zrX12_goesBy_1_ok 9 rfl) (by decide) ?_
                  refine va_iald hx hb hK hP 16 14 rfl rfl (by unfold vp_in; decide) (zat zrX12_goesBy_1_ok 10 rfl) ?_
                  refine lv_topi (fun z126 ez126 => ?_)
                  have h := nm_of h z126 ez126
                  obtain ⟨hg127, h⟩ := gA_of h
                  refine va_iast hx hb hK hP hD hS 16 14 rfl rfl hg127 (zat zrX12_goesBy_1_ok 11 rfl) (fun H locs hP hD hS => ?_)
                  obtain ⟨hP, hD⟩ := pd_mk ((a0, .inr (9, [g7, g8, g9, .ref a2, g10, g11, g12, g13, g14, g15, g16, g17, g18, g19, g20, .ref a1, g21, g22, g23, g24, g25, g26, g27, g28, g29, g30, g31, .int v4_m_c.1, .int v4_m_c.2.1, .int v4_m_c.2.2])) :: bX11 a2 uq kq q_q ([(a1, .inl (cB33, 26, .inl (upd (upd (upd o60.2 (((18 : Int32) + v4_l3)).toNatClampNeg (-2 : Int32)) (((0 : Int32) + o60.1)).toNatClampNeg (1 : Int32)) (((6 : Int32) + o60.1)).toNatClampNeg z126)))])) hP hD
                  refine lv_aload_n hx hb (zat zrX12_goesBy_1_ok 12 rfl) rfl (lv_at hl 4 rfl) ?_
                  refine lv_bipush (v := 12) hx hb (zat zrX12_goesBy_1_ok 13 rfl) (by decide) ?_
                  refine lv_iload hx hb (zat zrX12_goesBy_1_ok 14 rfl) (lv_at hl 0 rfl) ?_
                  refine lv_iadd hx hb (zat zrX12_goesBy_1_ok 15 rfl) ?_
                  refine lv_iload_n hx hb (zat zrX12_goesBy_1_ok 16 rfl) rfl (lv_at hl 1 rfl) ?_
                  obtain ⟨hg135, h⟩ := gA_of h
                  refine va_iast hx hb hK hP hD hS 16 14 rfl rfl hg135 (zat zrX12_goesBy_1_ok 17 rfl) (fun H locs hP hD hS => ?_)
                  obtain ⟨hP, hD⟩ := pd_mk ((a0, .inr (9, [g7, g8, g9, .ref a2, g10, g11, g12, g13, g14, g15, g16, g17, g18, g19, g20, .ref a1, g21, g22, g23, g24, g25, g26, g27, g28, g29, g30, g31, .int v4_m_c.1, .int v4_m_c.2.1, .int v4_m_c.2.2])) :: bX11 a2 uq kq q_q ([(a1, .inl (cB33, 26, .inl (upd (upd (upd (upd o60.2 (((18 : Int32) + v4_l3)).toNatClampNeg (-2 : Int32)) (((0 : Int32) + o60.1)).toNatClampNeg (1 : Int32)) (((6 : Int32) + o60.1)).toNatClampNeg z126) (((12 : Int32) + o60.1)).toNatClampNeg v4_l3)))])) hP hD
                  refine lv_iload_n hx hb (zat zrX12_goesBy_1_ok 18 rfl) rfl (lv_at hl 2 rfl) ?_
                  refine lv_iconst (v := 1) hx hb (zat zrX12_goesBy_1_ok 19 rfl) (by decide) ?_
                  refine lv_iload hx hb (zat zrX12_goesBy_1_ok 20 rfl) (lv_at hl 0 rfl) ?_
                  refine lv_ishl hx hb (zat zrX12_goesBy_1_ok 21 rfl) ?_
                  refine lv_ior hx hb (zat zrX12_goesBy_1_ok 22 rfl) ?_
                  refine lv_istore_n (lv' := [(2, .int (v4_l2 ||| ((1 : Int32) <<< (o60.1 &&& 31)))), (4, .int o60.1), (3, .int v4_l3), (0, .ref a0), (1, .ref a1)]) hx hb (zat zrX12_goesBy_1_ok 23 rfl) rfl hl (by decide) rfl (fun ls hl => ?_)
                  exact J143 (v4_l2 ||| ((1 : Int32) <<< (o60.1 &&& 31))) (upd (upd (upd (upd o60.2 (((18 : Int32) + v4_l3)).toNatClampNeg (-2 : Int32)) (((0 : Int32) + o60.1)).toNatClampNeg (1 : Int32)) (((6 : Int32) + o60.1)).toNatClampNeg z126) (((12 : Int32) + o60.1)).toNatClampNeg v4_l3) v4_m_c H _ ls h  (hP.sub (ws' := ((a0, .inr (9, [g7, g8, g9, .ref a2, g10, g11, g12, g13, g14, g15, g16, g17, g18, g19, g20, .ref a1, g21, g22, g23, g24, g25, g26, g27, g28, g29, g30, g31, .int v4_m_c.1, .int v4_m_c.2.1, .int v4_m_c.2.2])) :: (a1, .inl (cB33, 26, .inl (upd (upd (upd (upd o60.2 (((18 : Int32) + v4_l3)).toNatClampNeg (-2 : Int32)) (((0 : Int32) + o60.1)).toNatClampNeg (1 : Int32)) (((6 : Int32) + o60.1)).toNatClampNeg z126) (((12 : Int32) + o60.1)).toNatClampNeg v4_l3))) :: bX11 a2 uq kq q_q [])) [0, 16, 1, 2, 3, 4, 5, 6, 7, 8, 9, 10, 11, 12, 13, 14, 15] rfl) (hD.sub (ws' := ((a0, .inr (9, [g7, g8, g9, .ref a2, g10, g11, g12, g13, g14, g15, g16, g17, g18, g19, g20, .ref a1, g21, g22, g23, g24, g25, g26, g27, g28, g29, g30, g31, .int v4_m_c.1, .int v4_m_c.2.1, .int v4_m_c.2.2])) :: (a1, .inl (cB33, 26, .inl (upd (upd (upd (upd o60.2 (((18 : Int32) + v4_l3)).toNatClampNeg (-2 : Int32)) (((0 : Int32) + o60.1)).toNatClampNeg (1 : Int32)) (((6 : Int32) + o60.1)).toNatClampNeg z126) (((12 : Int32) + o60.1)).toNatClampNeg v4_l3))) :: bX11 a2 uq kq q_q [])) [0, 16, 1, 2, 3, 4, 5, 6, 7, 8, 9, 10, 11, 12, 13, 14, 15] (by decide) rfl) hS (lv_sub hl [2, 0, 3, 4] rfl)
                · have h := (if_pos c94).symm.trans h
                  refine lv_aload_n hx hb (zat zrX12_goesBy_0_ok 55 rfl) rfl (lv_at hl 3 rfl) ?_
                  refine lv_dup hx hb (zat zrX12_goesBy_0_ok 56 rfl) rfl ?_
                  refine va_get (D := (dC, dI)) (ci := 9) (v := .int v4_m_c.1) (C := RX12) (T := TX12) (N := 30) hx hb hts ifX12_goesBy_X12 hown hK hP 0 rfl rfl 27 (by decide) (hts (.fieldLink RX12 473 "HookPierModel" "crabsNow" "I") (List.mem_of_getElem? (i := 13) rfl)) (fun _ h9 => h9) rfl (zat zrX12_goesBy_0_ok 57 rfl) ?_
                  refine lv_iconst (v := 1) hx hb (zat zrX12_goesBy_0_ok 58 rfl) (by decide) ?_
                  refine lv_iadd hx hb (zat zrX12_goesBy_0_ok 59 rfl) ?_
                  refine va_put (D := (dC, dI)) (ci := 9) (v := .int (v4_m_c.1 + (1 : Int32))) (ty := .int) (C := RX12) (T := TX12) (N := 30) hx hb hts ifX12_goesBy_X12 tyX12 tyX12_ok nmX12 hown hK hP hD hS 0 rfl rfl 27 (by decide) (hts (.fieldLink RX12 473 "HookPierModel" "crabsNow" "I") (List.mem_of_getElem? (i := 13) rfl)) (fun _ h9 => h9) rfl (by decide +kernel) rfl rfl (Nat.le_of_ble_eq_true rfl) (zat zrX12_goesBy_0_ok 60 rfl) (fun H locs hP hD hS => ?_)
                  obtain ⟨hP, hD⟩ := pd_mk ((a0, .inr (9, [g7, g8, g9, .ref a2, g10, g11, g12, g13, g14, g15, g16, g17, g18, g19, g20, .ref a1, g21, g22, g23, g24, g25, g26, g27, g28, g29, g30, g31, .int (v4_m_c.1 + (1 : Int32)), .int v4_m_c.2.1, .int v4_m_c.2.2])) :: bX11 a2 uq kq q_q ([(a1, .inl (cB33, 26, .inl (upd o60.2 (((18 : Int32) + v4_l3)).toNatClampNeg (-2 : Int32))))])) hP hD
                  refine lv_goto (tgt := 143) hx hb (zat zrX12_goesBy_0_ok 61 rfl) (by decide) ?_
                  exact J143 v4_l2 (upd o60.2 (((18 : Int32) + v4_l3)).toNatClampNeg (-2 : Int32)) ((v4_m_c.1 + (1 : Int32)), v4_m_c.2) H _ ls h  (hP.sub (ws' := ((a0, .inr (9, [g7, g8, g9, .ref a2, g10, g11, g12, g13, g14, g15, g16, g17, g18, g19, g20, .ref a1, g21, g22, g23, g24, g25, g26, g27, g28, g29, g30, g31, .int (v4_m_c.1 + (1 : Int32)), .int v4_m_c.2.1, .int v4_m_c.2.2])) :: (a1, .inl (cB33, 26, .inl (upd o60.2 (((18 : Int32) + v4_l3)).toNatClampNeg (-2 : Int32)))) :: bX11 a2 uq kq q_q [])) [0, 16, 1, 2, 3, 4, 5, 6, 7, 8, 9, 10, 11, 12, 13, 14, 15] rfl) (hD.sub (ws' := ((a0, .inr (9, [g7, g8, g9, .ref a2, g10, g11, g12, g13, g14, g15, g16, g17, g18, g19, g20, .ref a1, g21, g22, g23, g24, g25, g26, g27, g28, g29, g30, g31, .int (v4_m_c.1 + (1 : Int32)), .int v4_m_c.2.1, .int v4_m_c.2.2])) :: (a1, .inl (cB33, 26, .inl (upd o60.2 (((18 : Int32) + v4_l3)).toNatClampNeg (-2 : Int32)))) :: bX11 a2 uq kq q_q [])) [0, 16, 1, 2, 3, 4, 5, 6, 7, 8, 9, 10, 11, 12, 13, 14, 15] (by decide) rfl) hS (lv_sub hl [1, 2, 3, 4] rfl)
              · have h := (if_pos c69).symm.trans h
                refine lv_goto (tgt := 143) hx hb (zat zrX12_goesBy_0_ok 41 rfl) (by decide) ?_
                exact J143 v4_l2 o60.2 v4_m_c H _ ls h  (hP.sub (ws' := ((a0, .inr (9, [g7, g8, g9, .ref a2, g10, g11, g12, g13, g14, g15, g16, g17, g18, g19, g20, .ref a1, g21, g22, g23, g24, g25, g26, g27, g28, g29, g30, g31, .int v4_m_c.1, .int v4_m_c.2.1, .int v4_m_c.2.2])) :: (a1, .inl (cB33, 26, .inl o60.2)) :: bX11 a2 uq kq q_q [])) [0, 16, 1, 2, 3, 4, 5, 6, 7, 8, 9, 10, 11, 12, 13, 14, 15] rfl) (hD.sub (ws' := ((a0, .inr (9, [g7, g8, g9, .ref a2, g10, g11, g12, g13, g14, g15, g16, g17, g18, g19, g20, .ref a1, g21, g22, g23, g24, g25, g26, g27, g28, g29, g30, g31, .int v4_m_c.1, .int v4_m_c.2.1, .int v4_m_c.2.2])) :: (a1, .inl (cB33, 26, .inl o60.2)) :: bX11 a2 uq kq q_q [])) [0, 16, 1, 2, 3, 4, 5, 6, 7, 8, 9, 10, 11, 12, 13, 14, 15] (by decide) rfl) hS (lv_sub hl [1, 2, 3, 4] rfl)
            · have h := (if_neg c46).symm.trans h
              refine lv_goto (tgt := 143) hx hb (zat zrX12_goesBy_0_ok 28 rfl) (by decide) ?_
              exact J143 v4_l2 v4_m_v v4_m_c H _ ls h  (hP.sub (ws' := ((a0, .inr (9, [g7, g8, g9, .ref a2, g10, g11, g12, g13, g14, g15, g16, g17, g18, g19, g20, .ref a1, g21, g22, g23, g24, g25, g26, g27, g28, g29, g30, g31, .int v4_m_c.1, .int v4_m_c.2.1, .int v4_m_c.2.2])) :: (a1, .inl (cB33, 26, .inl v4_m_v)) :: bX11 a2 uq kq q_q [])) [0, 16, 1, 2, 3, 4, 5, 6, 7, 8, 9, 10, 11, 12, 13, 14, 15] rfl) (hD.sub (ws' := ((a0, .inr (9, [g7, g8, g9, .ref a2, g10, g11, g12, g13, g14, g15, g16, g17, g18, g19, g20, .ref a1, g21, g22, g23, g24, g25, g26, g27, g28, g29, g30, g31, .int v4_m_c.1, .int v4_m_c.2.1, .int v4_m_c.2.2])) :: (a1, .inl (cB33, 26, .inl v4_m_v)) :: bX11 a2 uq kq q_q [])) [0, 16, 1, 2, 3, 4, 5, 6, 7, 8, 9, 10, 11, 12, 13, 14, 15] (by decide) rfl) hS (lv_sub hl [0, 1, 2, 3] rfl)
  exact L4 FU (0 : Int32) (0 : Int32) m_v m_c s.heap _ ls h  hP hD hS (lv_sub hl [0, 1, 2, 3] rfl)
