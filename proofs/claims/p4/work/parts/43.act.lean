theorem dX12_day_0 : decode cX12_day 0 = .ok (.aload_n 0, 1) := by decide +kernel
theorem dX12_day_1 : decode cX12_day 1 = .ok (.iconst 0, 1) := by decide +kernel
theorem dX12_day_18 : decode cX12_day 18 = .ok (.aload_n 0, 1) := by decide +kernel
theorem dX12_day_19 : decode cX12_day 19 = .ok (.getfield 17, 3) := by decide +kernel
theorem dX12_day_2 : decode cX12_day 2 = .ok (.putfield 36, 3) := by decide +kernel
theorem dX12_day_22 : decode cX12_day 22 = .ok (.bipush 23, 2) := by decide +kernel
theorem dX12_day_24 : decode cX12_day 24 = .ok (.iaload, 1) := by decide +kernel
theorem dX12_day_25 : decode cX12_day 25 = .ok (.sipush 999, 3) := by decide +kernel
theorem dX12_day_28 : decode cX12_day 28 = .ok (.if_icmp .ne 9, 3) := by decide +kernel
theorem dX12_day_31 : decode cX12_day 31 = .ok (.aload_n 0, 1) := by decide +kernel
theorem dX12_day_32 : decode cX12_day 32 = .ok (.iconst 3, 1) := by decide +kernel
theorem dX12_day_33 : decode cX12_day 33 = .ok (.invokevirtual 42, 3) := by decide +kernel
theorem dX12_day_36 : decode cX12_day 36 = .ok (.ireturn, 1) := by decide +kernel
theorem dX12_day_37 : decode cX12_day 37 = .ok (.aload_n 0, 1) := by decide +kernel
theorem dX12_day_38 : decode cX12_day 38 = .ok (.invokevirtual 501, 3) := by decide +kernel
theorem dX12_day_41 : decode cX12_day 41 = .ok (.aload_n 0, 1) := by decide +kernel
theorem dX12_day_42 : decode cX12_day 42 = .ok (.aload_n 0, 1) := by decide +kernel
theorem dX12_day_43 : decode cX12_day 43 = .ok (.aload_n 0, 1) := by decide +kernel
theorem dX12_day_44 : decode cX12_day 44 = .ok (.getfield 17, 3) := by decide +kernel
theorem dX12_day_47 : decode cX12_day 47 = .ok (.invokevirtual 485, 3) := by decide +kernel
theorem dX12_day_5 : decode cX12_day 5 = .ok (.aload_n 0, 1) := by decide +kernel
theorem dX12_day_50 : decode cX12_day 50 = .ok (.invokevirtual 46, 3) := by decide +kernel
theorem dX12_day_53 : decode cX12_day 53 = .ok (.ireturn, 1) := by decide +kernel
theorem dX12_day_6 : decode cX12_day 6 = .ok (.getfield 299, 3) := by decide +kernel
theorem dX12_day_9 : decode cX12_day 9 = .ok (.ifnonnull 9, 3) := by decide +kernel
def vfX12_day : List Cond := List.cons (.code yX12_day cX12_day 1 (some .int)) (apW [.fieldLink RX12 36 "HookPierModel" "thrown" "I", .fieldLink RX12 299 "HookPierModel" "pier" "LHookPierModel$Pier;", .fieldLink RX12 17 "HookPierModel" "v" "[I", .methodLink RX12 501 yX12_remembers, .instanceMethod yX12_remembers, .selects RX12 yX12_remembers yX12_remembers, .initialized RX12, .methodLink RX12 485 yX12_goesBy, .instanceMethod yX12_goesBy, .selects RX12 yX12_goesBy yX12_goesBy, .methodLink RX12 46 yX12_good, .instanceMethod yX12_good, .selects RX12 yX12_good yX12_good, .methodLink RX12 42 yX12_refused, .instanceMethod yX12_refused, .selects RX12 yX12_refused yX12_refused] (apW wsX120 (apW vfX12_remembers (apW vfX12_goesBy (apW vfX12_good (vfX12_refused))))))
theorem ifX12_day_X12 : ∀ w ∈ wsX120, w ∈ vfX12_day := fun _ h => (List.mem_cons_of_mem _ (List.mem_append_right _ (List.mem_append_left _ h)))
theorem qfX12_day : Good vfX12_day := gd_cons (by decide +kernel) (gd_app (gd_dec (by decide +kernel) : Good [.fieldLink RX12 36 "HookPierModel" "thrown" "I", .fieldLink RX12 299 "HookPierModel" "pier" "LHookPierModel$Pier;", .fieldLink RX12 17 "HookPierModel" "v" "[I", .methodLink RX12 501 yX12_remembers, .instanceMethod yX12_remembers, .selects RX12 yX12_remembers yX12_remembers, .initialized RX12, .methodLink RX12 485 yX12_goesBy, .instanceMethod yX12_goesBy, .selects RX12 yX12_goesBy yX12_goesBy, .methodLink RX12 46 yX12_good, .instanceMethod yX12_good, .selects RX12 yX12_good yX12_good, .methodLink RX12 42 yX12_refused, .instanceMethod yX12_refused, .selects RX12 yX12_refused yX12_refused]) (gd_app qsX12 (gd_app qfX12_remembers (gd_app qfX12_goesBy (gd_app qfX12_good qfX12_refused)))))
theorem gfX12_day_0 : GoodIn vfX12_day (wsV RX12 501 RX12 yX12_remembers vfX12_remembers) := goodIn_app (goodIn_r [.methodLink RX12 501 yX12_remembers, .instanceMethod yX12_remembers, .selects RX12 yX12_remembers yX12_remembers, .initialized RX12] [4, 5, 6, 7] rfl (by decide +kernel)) (goodIn_m (fun _ h => (List.mem_cons_of_mem _ (List.mem_append_right _ (List.mem_append_right _ (List.mem_append_left _ h))))) qfX12_remembers)
theorem gfX12_day_1 : GoodIn vfX12_day (wsV RX12 485 RX12 yX12_goesBy vfX12_goesBy) := goodIn_app (goodIn_r [.methodLink RX12 485 yX12_goesBy, .instanceMethod yX12_goesBy, .selects RX12 yX12_goesBy yX12_goesBy, .initialized RX12] [8, 9, 10, 7] rfl (by decide +kernel)) (goodIn_m (fun _ h => (List.mem_cons_of_mem _ (List.mem_append_right _ (List.mem_append_right _ (List.mem_append_right _ (List.mem_append_left _ h)))))) qfX12_goesBy)
theorem gfX12_day_2 : GoodIn vfX12_day (wsV RX12 46 RX12 yX12_good vfX12_good) := goodIn_app (goodIn_r [.methodLink RX12 46 yX12_good, .instanceMethod yX12_good, .selects RX12 yX12_good yX12_good, .initialized RX12] [11, 12, 13, 7] rfl (by decide +kernel)) (goodIn_m (fun _ h => (List.mem_cons_of_mem _ (List.mem_append_right _ (List.mem_append_right _ (List.mem_append_right _ (List.mem_append_right _ (List.mem_append_left _ h))))))) qfX12_good)
theorem gfX12_day_3 : GoodIn vfX12_day (wsV RX12 42 RX12 yX12_refused vfX12_refused) := goodIn_app (goodIn_r [.methodLink RX12 42 yX12_refused, .instanceMethod yX12_refused, .selects RX12 yX12_refused yX12_refused, .initialized RX12] [14, 15, 16, 7] rfl (by decide +kernel)) (goodIn_m (fun _ h => (List.mem_cons_of_mem _ (List.mem_append_right _ (List.mem_append_right _ (List.mem_append_right _ (List.mem_append_right _ (List.mem_append_right _ h))))))) qfX12_refused)
set_option maxHeartbeats 2000000 in
set_option maxRecDepth 100000 in
theorem kfX12_day (l : Launch) (dC : Nat → ClassId) (dI : Nat → Nat → Nat) (a0 : Nat) (a1 : Nat) (a2 : Nat) (a3 : Nat) (a4 : Nat) (uq : Nat → Nat) (kq : Nat → ClassId) (m_t : TX12_t) (m_v : TX12_v) (m_h : TX12_h) (m_c : TX12_c) (g11 : Value) (g12 : Value) (g13 : Value) (g14 : Value) (g15 : Value) (g16 : Value) (g17 : Value) (g18 : Value) (g19 : Value) (g20 : Value) (g21 : Value) (g22 : Value) (g23 : Value) (g24 : Value) (g25 : Value) (g26 : Value) (g27 : Value) (g28 : Value) (q_q : TX11_q) (cB30 : ClassId) (cB31 : ClassId) (cB32 : ClassId) (sz : Nat) (out : (Int32 × TX12_t × TX12_v × TX12_h × TX12_c)) (h : f_X12_day m_t m_v m_h m_c q_q = some out) : Met l yX12_day vfX12_day ({ frames := 6, cells := 0, slots := 0, locals := 140 }) (PC (dC, dI) [.ref a0] sz ((a0, .inr (9, [.int m_t.1, .int m_t.2.1, .int m_t.2.2, .ref a1, g11, g12, g13, g14, g15, g16, g17, g18, g19, g20, g21, .ref a2, g22, .ref a3, .ref a4, .int m_h.2.2.1, .int m_h.2.2.2, g23, g24, g25, g26, g27, g28, .int m_c.1, .int m_c.2.1, .int m_c.2.2])) :: bX11 a1 uq kq q_q ([(a2, .inl (cB30, 26, .inl m_v)), (a3, .inl (cB31, 416, .inl m_h.1)), (a4, .inl (cB32, 78, .inl m_h.2.1))])) (tX11 kq ((cB30, .int) :: (cB31, .int) :: (cB32, .int) :: []))) (va_Qi (S := Unit) (fun (r : Int32) _ => r = out.1) (fun _ t => BC (dC, dI) (va_A ((a0, .inr (9, [.int m_t.1, .int m_t.2.1, .int m_t.2.2, .ref a1, g11, g12, g13, g14, g15, g16, g17, g18, g19, g20, g21, .ref a2, g22, .ref a3, .ref a4, .int m_h.2.2.1, .int m_h.2.2.2, g23, g24, g25, g26, g27, g28, .int m_c.1, .int m_c.2.1, .int m_c.2.2])) :: bX11 a1 uq kq q_q ([(a2, .inl (cB30, 26, .inl m_v)), (a3, .inl (cB31, 416, .inl m_h.1)), (a4, .inl (cB32, 78, .inl m_h.2.1))])) sz) ((a0, .inr (9, [.int out.2.1.1, .int out.2.1.2.1, .int out.2.1.2.2, .ref a1, g11, g12, g13, g14, g15, g16, g17, g18, g19, g20, g21, .ref a2, g22, .ref a3, .ref a4, .int out.2.2.2.1.2.2.1, .int out.2.2.2.1.2.2.2, g23, g24, g25, g26, g27, g28, .int out.2.2.2.2.1, .int out.2.2.2.2.2.1, .int out.2.2.2.2.2.2])) :: bX11 a1 uq kq q_q ([(a2, .inl (cB30, 26, .inl out.2.2.1)), (a3, .inl (cB31, 416, .inl out.2.2.2.1.1)), (a4, .inl (cB32, 78, .inl out.2.2.2.1.2.1))])) [] t) (va_A ((a0, .inr (9, [.int m_t.1, .int m_t.2.1, .int m_t.2.2, .ref a1, g11, g12, g13, g14, g15, g16, g17, g18, g19, g20, g21, .ref a2, g22, .ref a3, .ref a4, .int m_h.2.2.1, .int m_h.2.2.2, g23, g24, g25, g26, g27, g28, .int m_c.1, .int m_c.2.1, .int m_c.2.2])) :: bX11 a1 uq kq q_q ([(a2, .inl (cB30, 26, .inl m_v)), (a3, .inl (cB31, 416, .inl m_h.1)), (a4, .inl (cB32, 78, .inl m_h.2.1))])) sz)) 0 0 (va_A ((a0, .inr (9, [.int m_t.1, .int m_t.2.1, .int m_t.2.2, .ref a1, g11, g12, g13, g14, g15, g16, g17, g18, g19, g20, g21, .ref a2, g22, .ref a3, .ref a4, .int m_h.2.2.1, .int m_h.2.2.2, g23, g24, g25, g26, g27, g28, .int m_c.1, .int m_c.2.1, .int m_c.2.2])) :: bX11 a1 uq kq q_q ([(a2, .inl (cB30, 26, .inl m_v)), (a3, .inl (cB31, 416, .inl m_h.1)), (a4, .inl (cB32, 78, .inl m_h.2.1))])) sz) := by
  refine Met.ofW (cc := cX12_day) (maxL := 1) (ret := (some .int)) (by decide) rfl ?_
  intro p e s m args below meth c s₁ B0 hml hv
  obtain ⟨rfl, hsz, hP, hK, hD0, hN⟩ := hv
  have hx := B0.exec
  have hb := B0.bytes
  have hr := B0.returns
  have hts := atoms_spec (ws := vfX12_day) B0.pre
  have hown : s.vm.findClass RX12 = some m.cls := findClass_of_methodNamed B0.named
  have hlocks := B0.notSynchronized
  subst hsz
  have hD := hD0.self (sz := s.heap.size)
  generalize hAe : va_A ((a0, .inr (9, [.int m_t.1, .int m_t.2.1, .int m_t.2.2, .ref a1, g11, g12, g13, g14, g15, g16, g17, g18, g19, g20, g21, .ref a2, g22, .ref a3, .ref a4, .int m_h.2.2.1, .int m_h.2.2.2, g23, g24, g25, g26, g27, g28, .int m_c.1, .int m_c.2.1, .int m_c.2.2])) :: bX11 a1 uq kq q_q ([(a2, .inl (cB30, 26, .inl m_v)), (a3, .inl (cB31, 416, .inl m_h.1)), (a4, .inl (cB32, 78, .inl m_h.2.1))])) s.heap.size = A at hD ⊢
  have hA : ∀ q : Nat, s.heap.size ≤ q → A q := fun q h => by rw [← hAe]; exact Or.inr h
  have hS : va_S A s.heap s.heap [] := va_S.rf
  have hP : va_P (dC, dI) vwCl ((a0, .inr (9, [.int m_t.1, .int m_t.2.1, .int m_t.2.2, .ref a1, g11, g12, g13, g14, g15, g16, g17, g18, g19, g20, g21, .ref a2, g22, .ref a3, .ref a4, .int m_h.2.2.1, .int m_h.2.2.2, g23, g24, g25, g26, g27, g28, .int m_c.1, .int m_c.2.1, .int m_c.2.2])) :: bX11 a1 uq kq q_q ([(a2, .inl (cB30, 26, .inl m_v)), (a3, .inl (cB31, 416, .inl m_h.1)), (a4, .inl (cB32, 78, .inl m_h.2.1))])) s.heap := hP
  have hl := lv_entry ([.ref a0]) (n := 1) (Nat.le_of_ble_eq_true rfl)
  rw [lg_entry_eq]
  generalize (lg_sl ([.ref a0]) ++ List.replicate (1 - (lg_sl ([.ref a0])).length) Slot.unset).toArray = ls at hl ⊢
  have hl : lv_has ls 1 [(0, .ref a0)] := hl
  refine W_q (fun QQ hQQ => ?_)
  rw [f_X12_day] at h
  refine lv_aload_n hx hb dX12_day_0 rfl (lv_at hl 0 rfl) ?_
  refine lv_iconst (v := 0) hx hb dX12_day_1 (by decide) ?_
  refine va_put (D := (dC, dI)) (ci := 9) (v := .int 0) (ty := .int) (C := RX12) (T := TX12) (N := 30) hx hb hts ifX12_day_X12 tyX12 tyX12_ok nmX12 hown hK hP hD hS 0 rfl rfl 0 (by decide) (hts (.fieldLink RX12 36 "HookPierModel" "thrown" "I") (List.mem_of_getElem? (i := 1) rfl)) (fun _ h9 => h9) rfl (by decide +kernel) rfl rfl (Nat.le_of_ble_eq_true rfl) dX12_day_2 (fun H locs hP hD hS => ?_)
  have hP : va_P (dC, dI) vwCl ((a0, .inr (9, [.int 0, .int m_t.2.1, .int m_t.2.2, .ref a1, g11, g12, g13, g14, g15, g16, g17, g18, g19, g20, g21, .ref a2, g22, .ref a3, .ref a4, .int m_h.2.2.1, .int m_h.2.2.2, g23, g24, g25, g26, g27, g28, .int m_c.1, .int m_c.2.1, .int m_c.2.2])) :: bX11 a1 uq kq q_q ([(a2, .inl (cB30, 26, .inl m_v)), (a3, .inl (cB31, 416, .inl m_h.1)), (a4, .inl (cB32, 78, .inl m_h.2.1))])) H := hP
  have hD : va_D A ((a0, .inr (9, [.int 0, .int m_t.2.1, .int m_t.2.2, .ref a1, g11, g12, g13, g14, g15, g16, g17, g18, g19, g20, g21, .ref a2, g22, .ref a3, .ref a4, .int m_h.2.2.1, .int m_h.2.2.2, g23, g24, g25, g26, g27, g28, .int m_c.1, .int m_c.2.1, .int m_c.2.2])) :: bX11 a1 uq kq q_q ([(a2, .inl (cB30, 26, .inl m_v)), (a3, .inl (cB31, 416, .inl m_h.1)), (a4, .inl (cB32, 78, .inl m_h.2.1))])) := hD
  refine lv_aload_n hx hb dX12_day_5 rfl (lv_at hl 0 rfl) ?_
  refine va_get (D := (dC, dI)) (ci := 9) (v := .ref a1) (C := RX12) (T := TX12) (N := 30) hx hb hts ifX12_day_X12 hown hK hP 0 rfl rfl 3 (by decide) (hts (.fieldLink RX12 299 "HookPierModel" "pier" "LHookPierModel$Pier;") (List.mem_of_getElem? (i := 2) rfl)) (fun _ h9 => h9) rfl dX12_day_6 ?_
  refine lv_ifnonnull (tgt := 18) hx hb dX12_day_9 (by decide) ?_
  refine lv_aload_n hx hb dX12_day_18 rfl (lv_at hl 0 rfl) ?_
  refine va_get (D := (dC, dI)) (ci := 9) (v := .ref a2) (C := RX12) (T := TX12) (N := 30) hx hb hts ifX12_day_X12 hown hK hP 0 rfl rfl 15 (by decide) (hts (.fieldLink RX12 17 "HookPierModel" "v" "[I") (List.mem_of_getElem? (i := 3) rfl)) (fun _ h9 => h9) rfl dX12_day_19 ?_
  refine lv_bipush (v := 23) hx hb dX12_day_22 (by decide) ?_
  refine va_iald hx hb hK hP 16 14 rfl rfl (by unfold vp_in; decide) dX12_day_24 ?_
  refine lv_sipush (v := 999) hx hb dX12_day_25 (by decide) ?_
  refine lv_icmp_ne (tgt := 37) hx hb dX12_day_28 (by decide) (fun c28 => ?_) (fun c28 => ?_)
  · have h := (if_neg c28).symm.trans h
    refine lv_aload_n hx hb dX12_day_37 rfl (lv_at hl 0 rfl) ?_
    obtain ⟨o38, eo38, h⟩ := bd_of h
    refine cl_v (wc := ([(a0, .inr (9, [.int 0, .int m_t.2.1, .int m_t.2.2, .ref a1, g11, g12, g13, g14, g15, g16, g17, g18, g19, g20, g21, .ref a2, g22, .ref a3, .ref a4, .int m_h.2.2.1, .int m_h.2.2.2, g23, g24, g25, g26, g27, g28, .int m_c.1, .int m_c.2.1, .int m_c.2.2])), (a2, .inl (cB30, 26, .inl m_v)), (a3, .inl (cB31, 416, .inl m_h.1)), (a4, .inl (cB32, 78, .inl m_h.2.1))])) (wr := (bX11 a1 uq kq q_q [])) (va_runV (As := []) (rest := []) ⟨hx, hb, hml, hown, hts⟩ (kfX12_remembers l dC dI a0 a2 a3 a4 m_v m_h (.int 0) (.int m_t.2.1) (.int m_t.2.2) (.ref a1) (g11) (g12) (g13) (g14) (g15) (g16) (g17) (g18) (g19) (g20) (g21) (g22) (g23) (g24) (g25) (g26) (g27) (g28) (.int m_c.1) (.int m_c.2.1) (.int m_c.2.2) cB30 cB31 cB32 H.size o38 eo38) (cwV 0 hts gfX12_day_0 rfl rfl rfl (by decide +kernel) ⟨(Nat.le_of_ble_eq_true rfl), (Nat.le_of_ble_eq_true rfl)⟩) (PV (hP.sub (ws' := ([(a0, .inr (9, [.int 0, .int m_t.2.1, .int m_t.2.2, .ref a1, g11, g12, g13, g14, g15, g16, g17, g18, g19, g20, g21, .ref a2, g22, .ref a3, .ref a4, .int m_h.2.2.1, .int m_h.2.2.2, g23, g24, g25, g26, g27, g28, .int m_c.1, .int m_c.2.1, .int m_c.2.2])), (a2, .inl (cB30, 26, .inl m_v)), (a3, .inl (cB31, 416, .inl m_h.1)), (a4, .inl (cB32, 78, .inl m_h.2.1))])) [0, 16, 17, 18] rfl) (hK.sub (tys' := ((cB30, .int) :: (cB31, .int) :: (cB32, .int) :: [])) [14, 15, 16] rfl) (hD.sub (ws' := ([(a0, .inr (9, [.int 0, .int m_t.2.1, .int m_t.2.2, .ref a1, g11, g12, g13, g14, g15, g16, g17, g18, g19, g20, g21, .ref a2, g22, .ref a3, .ref a4, .int m_h.2.2.1, .int m_h.2.2.2, g23, g24, g25, g26, g27, g28, .int m_c.1, .int m_c.2.1, .int m_c.2.2])), (a2, .inl (cB30, 26, .inl m_v)), (a3, .inl (cB31, 416, .inl m_h.1)), (a4, .inl (cB32, 78, .inl m_h.2.1))])) [0, 16, 17, 18] (by decide) rfl) hN 0 rfl rfl) rfl rfl hl.1 rfl (lv_room (Nat.le_of_ble_eq_true rfl)) dX12_day_38 ⟨(Nat.le_of_ble_eq_true rfl), (Nat.le_of_ble_eq_true rfl)⟩) hP hD hK hS hA [0, 16, 17, 18] [1, 2, 3, 4, 5, 6, 7, 8, 9, 10, 11, 12, 13, 14, 15] rfl rfl (by decide) (by decide) (fun _ H locs hw hP hD _ hS => ?_)
    have hP : va_P (dC, dI) vwCl (bX11 a1 uq kq q_q ([(a0, .inr (9, [.int 0, .int m_t.2.1, .int m_t.2.2, .ref a1, g11, g12, g13, g14, g15, g16, g17, g18, g19, g20, g21, .ref a2, g22, .ref a3, .ref a4, .int o38.2.2.1, .int o38.2.2.2, g23, g24, g25, g26, g27, g28, .int m_c.1, .int m_c.2.1, .int m_c.2.2])), (a2, .inl (cB30, 26, .inl m_v)), (a3, .inl (cB31, 416, .inl o38.1)), (a4, .inl (cB32, 78, .inl o38.2.1))])) H := hP
    have hD : va_D A (bX11 a1 uq kq q_q ([(a0, .inr (9, [.int 0, .int m_t.2.1, .int m_t.2.2, .ref a1, g11, g12, g13, g14, g15, g16, g17, g18, g19, g20, g21, .ref a2, g22, .ref a3, .ref a4, .int o38.2.2.1, .int o38.2.2.2, g23, g24, g25, g26, g27, g28, .int m_c.1, .int m_c.2.1, .int m_c.2.2])), (a2, .inl (cB30, 26, .inl m_v)), (a3, .inl (cB31, 416, .inl o38.1)), (a4, .inl (cB32, 78, .inl o38.2.1))])) := hD
    refine lv_aload_n hx hb dX12_day_41 rfl (lv_at hl 0 rfl) ?_
    refine lv_aload_n hx hb dX12_day_42 rfl (lv_at hl 0 rfl) ?_
    refine lv_aload_n hx hb dX12_day_43 rfl (lv_at hl 0 rfl) ?_
    refine va_get (D := (dC, dI)) (ci := 9) (v := .ref a2) (C := RX12) (T := TX12) (N := 30) hx hb hts ifX12_day_X12 hown hK hP 15 rfl rfl 15 (by decide) (hts (.fieldLink RX12 17 "HookPierModel" "v" "[I") (List.mem_of_getElem? (i := 3) rfl)) (fun _ h9 => h9) rfl dX12_day_44 ?_
    obtain ⟨o47, eo47, h⟩ := bd_of h
    refine cl_i (wc := ((a0, .inr (9, [.int 0, .int m_t.2.1, .int m_t.2.2, .ref a1, g11, g12, g13, g14, g15, g16, g17, g18, g19, g20, g21, .ref a2, g22, .ref a3, .ref a4, .int o38.2.2.1, .int o38.2.2.2, g23, g24, g25, g26, g27, g28, .int m_c.1, .int m_c.2.1, .int m_c.2.2])) :: bX11 a1 uq kq q_q ([(a2, .inl (cB30, 26, .inl m_v))]))) (wr := ([(a3, .inl (cB31, 416, .inl o38.1)), (a4, .inl (cB32, 78, .inl o38.2.1))])) (va_runV (As := [.ref a2]) (rest := [.ref a0]) ⟨hx, hb, hml, hown, hts⟩ (kfX12_goesBy l dC dI a0 a2 a1 uq kq m_v m_c (.int 0) (.int m_t.2.1) (.int m_t.2.2) (g11) (g12) (g13) (g14) (g15) (g16) (g17) (g18) (g19) (g20) (g21) (g22) (.ref a3) (.ref a4) (.int o38.2.2.1) (.int o38.2.2.2) (g23) (g24) (g25) (g26) (g27) (g28) q_q cB30 H.size o47 eo47) (cwV 1 hts gfX12_day_1 rfl rfl rfl (by decide +kernel) ⟨(Nat.le_of_ble_eq_true rfl), (Nat.le_of_ble_eq_true rfl)⟩) (PV (hP.sub (ws' := ((a0, .inr (9, [.int 0, .int m_t.2.1, .int m_t.2.2, .ref a1, g11, g12, g13, g14, g15, g16, g17, g18, g19, g20, g21, .ref a2, g22, .ref a3, .ref a4, .int o38.2.2.1, .int o38.2.2.2, g23, g24, g25, g26, g27, g28, .int m_c.1, .int m_c.2.1, .int m_c.2.2])) :: bX11 a1 uq kq q_q ([(a2, .inl (cB30, 26, .inl m_v))]))) [15, 0, 1, 2, 3, 4, 5, 6, 7, 8, 9, 10, 11, 12, 13, 14, 16] rfl) (hK.sub (tys' := (tX11 kq ((cB30, .int) :: []))) [0, 1, 2, 3, 4, 5, 6, 7, 8, 9, 10, 11, 12, 13, 14] rfl) (hD.sub (ws' := ((a0, .inr (9, [.int 0, .int m_t.2.1, .int m_t.2.2, .ref a1, g11, g12, g13, g14, g15, g16, g17, g18, g19, g20, g21, .ref a2, g22, .ref a3, .ref a4, .int o38.2.2.1, .int o38.2.2.2, g23, g24, g25, g26, g27, g28, .int m_c.1, .int m_c.2.1, .int m_c.2.2])) :: bX11 a1 uq kq q_q ([(a2, .inl (cB30, 26, .inl m_v))]))) [15, 0, 1, 2, 3, 4, 5, 6, 7, 8, 9, 10, 11, 12, 13, 14, 16] (by decide) rfl) hN 0 rfl rfl) rfl rfl hl.1 rfl (lv_room (Nat.le_of_ble_eq_true rfl)) dX12_day_47 ⟨(Nat.le_of_ble_eq_true rfl), (Nat.le_of_ble_eq_true rfl)⟩) hP hD hK hS hA [15, 0, 1, 2, 3, 4, 5, 6, 7, 8, 9, 10, 11, 12, 13, 14, 16] [17, 18] rfl rfl (by decide) (by decide) (fun r47 _ H locs hw hP hD _ hS => ?_)
    obtain rfl := hw
    have hP : va_P (dC, dI) vwCl ((a3, .inl (cB31, 416, .inl o38.1)) :: (a4, .inl (cB32, 78, .inl o38.2.1)) :: (a0, .inr (9, [.int 0, .int m_t.2.1, .int m_t.2.2, .ref a1, g11, g12, g13, g14, g15, g16, g17, g18, g19, g20, g21, .ref a2, g22, .ref a3, .ref a4, .int o38.2.2.1, .int o38.2.2.2, g23, g24, g25, g26, g27, g28, .int o47.2.2.1, .int o47.2.2.2.1, .int o47.2.2.2.2])) :: bX11 a1 uq kq q_q ([(a2, .inl (cB30, 26, .inl o47.2.1))])) H := hP
    have hD : va_D A ((a3, .inl (cB31, 416, .inl o38.1)) :: (a4, .inl (cB32, 78, .inl o38.2.1)) :: (a0, .inr (9, [.int 0, .int m_t.2.1, .int m_t.2.2, .ref a1, g11, g12, g13, g14, g15, g16, g17, g18, g19, g20, g21, .ref a2, g22, .ref a3, .ref a4, .int o38.2.2.1, .int o38.2.2.2, g23, g24, g25, g26, g27, g28, .int o47.2.2.1, .int o47.2.2.2.1, .int o47.2.2.2.2])) :: bX11 a1 uq kq q_q ([(a2, .inl (cB30, 26, .inl o47.2.1))])) := hD
    obtain ⟨o50, eo50⟩ : ∃ o, o = f_X12_good o47.1 ((0 : Int32), m_t.2) := ⟨_, rfl⟩
    have h := nm_of h o50 eo50
    refine cl_i (wc := ([(a0, .inr (9, [.int 0, .int m_t.2.1, .int m_t.2.2, .ref a1, g11, g12, g13, g14, g15, g16, g17, g18, g19, g20, g21, .ref a2, g22, .ref a3, .ref a4, .int o38.2.2.1, .int o38.2.2.2, g23, g24, g25, g26, g27, g28, .int o47.2.2.1, .int o47.2.2.2.1, .int o47.2.2.2.2]))])) (wr := ((a3, .inl (cB31, 416, .inl o38.1)) :: (a4, .inl (cB32, 78, .inl o38.2.1)) :: bX11 a1 uq kq q_q ([(a2, .inl (cB30, 26, .inl o47.2.1))]))) (va_runV (As := [.int o47.1]) (rest := []) ⟨hx, hb, hml, hown, hts⟩ (kfX12_good l dC dI a0 o47.1 ((0 : Int32), m_t.2) (.ref a1) (g11) (g12) (g13) (g14) (g15) (g16) (g17) (g18) (g19) (g20) (g21) (.ref a2) (g22) (.ref a3) (.ref a4) (.int o38.2.2.1) (.int o38.2.2.2) (g23) (g24) (g25) (g26) (g27) (g28) (.int o47.2.2.1) (.int o47.2.2.2.1) (.int o47.2.2.2.2) H.size o50 eo50.symm) (cwV 1 hts gfX12_day_2 rfl rfl rfl (by decide +kernel) ⟨(Nat.le_of_ble_eq_true rfl), (Nat.le_of_ble_eq_true rfl)⟩) (PV (hP.sub (ws' := ([(a0, .inr (9, [.int 0, .int m_t.2.1, .int m_t.2.2, .ref a1, g11, g12, g13, g14, g15, g16, g17, g18, g19, g20, g21, .ref a2, g22, .ref a3, .ref a4, .int o38.2.2.1, .int o38.2.2.2, g23, g24, g25, g26, g27, g28, .int o47.2.2.1, .int o47.2.2.2.1, .int o47.2.2.2.2]))])) [2] rfl) (hK.sub (tys' := ([])) [] rfl) (hD.sub (ws' := ([(a0, .inr (9, [.int 0, .int m_t.2.1, .int m_t.2.2, .ref a1, g11, g12, g13, g14, g15, g16, g17, g18, g19, g20, g21, .ref a2, g22, .ref a3, .ref a4, .int o38.2.2.1, .int o38.2.2.2, g23, g24, g25, g26, g27, g28, .int o47.2.2.1, .int o47.2.2.2.1, .int o47.2.2.2.2]))])) [2] (by decide) rfl) hN 0 rfl rfl) rfl rfl hl.1 rfl (lv_room (Nat.le_of_ble_eq_true rfl)) dX12_day_50 ⟨(Nat.le_of_ble_eq_true rfl), (Nat.le_of_ble_eq_true rfl)⟩) hP hD hK hS hA [2] [0, 1, 3, 4, 5, 6, 7, 8, 9, 10, 11, 12, 13, 14, 15, 16, 17, 18] rfl rfl (by decide) (by decide) (fun r50 _ H locs hw hP hD _ hS => ?_)
    obtain rfl := hw
    have hP : va_P (dC, dI) vwCl ((a3, .inl (cB31, 416, .inl o38.1)) :: (a4, .inl (cB32, 78, .inl o38.2.1)) :: bX11 a1 uq kq q_q ([(a2, .inl (cB30, 26, .inl o47.2.1)), (a0, .inr (9, [.int o50.2.1, .int o50.2.2.1, .int o50.2.2.2, .ref a1, g11, g12, g13, g14, g15, g16, g17, g18, g19, g20, g21, .ref a2, g22, .ref a3, .ref a4, .int o38.2.2.1, .int o38.2.2.2, g23, g24, g25, g26, g27, g28, .int o47.2.2.1, .int o47.2.2.2.1, .int o47.2.2.2.2]))])) H := hP
    have hD : va_D A ((a3, .inl (cB31, 416, .inl o38.1)) :: (a4, .inl (cB32, 78, .inl o38.2.1)) :: bX11 a1 uq kq q_q ([(a2, .inl (cB30, 26, .inl o47.2.1)), (a0, .inr (9, [.int o50.2.1, .int o50.2.2.1, .int o50.2.2.2, .ref a1, g11, g12, g13, g14, g15, g16, g17, g18, g19, g20, g21, .ref a2, g22, .ref a3, .ref a4, .int o38.2.2.1, .int o38.2.2.2, g23, g24, g25, g26, g27, g28, .int o47.2.2.1, .int o47.2.2.2.1, .int o47.2.2.2.2]))])) := hD
    obtain rfl := Option.some.inj h
    have hP9 := hP.sub (ws' := ((a0, .inr (9, [.int o50.2.1, .int o50.2.2.1, .int o50.2.2.2, .ref a1, g11, g12, g13, g14, g15, g16, g17, g18, g19, g20, g21, .ref a2, g22, .ref a3, .ref a4, .int o38.2.2.1, .int o38.2.2.2, g23, g24, g25, g26, g27, g28, .int o47.2.2.1, .int o47.2.2.2.1, .int o47.2.2.2.2])) :: bX11 a1 uq kq q_q ([(a2, .inl (cB30, 26, .inl o47.2.1)), (a3, .inl (cB31, 416, .inl o38.1)), (a4, .inl (cB32, 78, .inl o38.2.1))]))) [18, 2, 3, 4, 5, 6, 7, 8, 9, 10, 11, 12, 13, 14, 15, 16, 17, 0, 1] rfl
    have hD9 := hD.sub (ws' := ((a0, .inr (9, [.int o50.2.1, .int o50.2.2.1, .int o50.2.2.2, .ref a1, g11, g12, g13, g14, g15, g16, g17, g18, g19, g20, g21, .ref a2, g22, .ref a3, .ref a4, .int o38.2.2.1, .int o38.2.2.2, g23, g24, g25, g26, g27, g28, .int o47.2.2.1, .int o47.2.2.2.1, .int o47.2.2.2.2])) :: bX11 a1 uq kq q_q ([(a2, .inl (cB30, 26, .inl o47.2.1)), (a3, .inl (cB31, 416, .inl o38.1)), (a4, .inl (cB32, 78, .inl o38.2.1))]))) [18, 2, 3, 4, 5, 6, 7, 8, 9, 10, 11, 12, 13, 14, 15, 16, 17, 0, 1] (by decide) rfl
    have hK9 := hK.sub (tys' := []) [] rfl
    rw [hQQ]
    exact W.iret (v := o50.1) hx hb hr (fun t ht hW => ⟨⟨o50.1, (), rfl, rfl, by rw [ht]; exact hP9, va_K.moved hW.alike hK9, hD9⟩, hS.F ht⟩) hS.2.2 dX12_day_53
  · have h := (if_pos c28).symm.trans h
    refine lv_aload_n hx hb dX12_day_31 rfl (lv_at hl 0 rfl) ?_
    refine lv_iconst (v := 3) hx hb dX12_day_32 (by decide) ?_
    obtain ⟨o33, eo33⟩ : ∃ o, o = f_X12_refused (3 : Int32) ((0 : Int32), m_t.2) := ⟨_, rfl⟩
    have h := nm_of h o33 eo33
    refine cl_i (wc := ([(a0, .inr (9, [.int 0, .int m_t.2.1, .int m_t.2.2, .ref a1, g11, g12, g13, g14, g15, g16, g17, g18, g19, g20, g21, .ref a2, g22, .ref a3, .ref a4, .int m_h.2.2.1, .int m_h.2.2.2, g23, g24, g25, g26, g27, g28, .int m_c.1, .int m_c.2.1, .int m_c.2.2]))])) (wr := (bX11 a1 uq kq q_q ([(a2, .inl (cB30, 26, .inl m_v)), (a3, .inl (cB31, 416, .inl m_h.1)), (a4, .inl (cB32, 78, .inl m_h.2.1))]))) (va_runV (As := [.int 3]) (rest := []) ⟨hx, hb, hml, hown, hts⟩ (kfX12_refused l dC dI a0 (3 : Int32) ((0 : Int32), m_t.2) (.ref a1) (g11) (g12) (g13) (g14) (g15) (g16) (g17) (g18) (g19) (g20) (g21) (.ref a2) (g22) (.ref a3) (.ref a4) (.int m_h.2.2.1) (.int m_h.2.2.2) (g23) (g24) (g25) (g26) (g27) (g28) (.int m_c.1) (.int m_c.2.1) (.int m_c.2.2) H.size o33 eo33.symm) (cwV 1 hts gfX12_day_3 rfl rfl rfl (by decide +kernel) ⟨(Nat.le_of_ble_eq_true rfl), (Nat.le_of_ble_eq_true rfl)⟩) (PV (hP.sub (ws' := ([(a0, .inr (9, [.int 0, .int m_t.2.1, .int m_t.2.2, .ref a1, g11, g12, g13, g14, g15, g16, g17, g18, g19, g20, g21, .ref a2, g22, .ref a3, .ref a4, .int m_h.2.2.1, .int m_h.2.2.2, g23, g24, g25, g26, g27, g28, .int m_c.1, .int m_c.2.1, .int m_c.2.2]))])) [0] rfl) (hK.sub (tys' := ([])) [] rfl) (hD.sub (ws' := ([(a0, .inr (9, [.int 0, .int m_t.2.1, .int m_t.2.2, .ref a1, g11, g12, g13, g14, g15, g16, g17, g18, g19, g20, g21, .ref a2, g22, .ref a3, .ref a4, .int m_h.2.2.1, .int m_h.2.2.2, g23, g24, g25, g26, g27, g28, .int m_c.1, .int m_c.2.1, .int m_c.2.2]))])) [0] (by decide) rfl) hN 0 rfl rfl) rfl rfl hl.1 rfl (lv_room (Nat.le_of_ble_eq_true rfl)) dX12_day_33 ⟨(Nat.le_of_ble_eq_true rfl), (Nat.le_of_ble_eq_true rfl)⟩) hP hD hK hS hA [0] [1, 2, 3, 4, 5, 6, 7, 8, 9, 10, 11, 12, 13, 14, 15, 16, 17, 18] rfl rfl (by decide) (by decide) (fun r33 _ H locs hw hP hD _ hS => ?_)
    obtain rfl := hw
    have hP : va_P (dC, dI) vwCl (bX11 a1 uq kq q_q ([(a2, .inl (cB30, 26, .inl m_v)), (a3, .inl (cB31, 416, .inl m_h.1)), (a4, .inl (cB32, 78, .inl m_h.2.1)), (a0, .inr (9, [.int o33.1, .int o33.2.1, .int o33.2.2, .ref a1, g11, g12, g13, g14, g15, g16, g17, g18, g19, g20, g21, .ref a2, g22, .ref a3, .ref a4, .int m_h.2.2.1, .int m_h.2.2.2, g23, g24, g25, g26, g27, g28, .int m_c.1, .int m_c.2.1, .int m_c.2.2]))])) H := hP
    have hD : va_D A (bX11 a1 uq kq q_q ([(a2, .inl (cB30, 26, .inl m_v)), (a3, .inl (cB31, 416, .inl m_h.1)), (a4, .inl (cB32, 78, .inl m_h.2.1)), (a0, .inr (9, [.int o33.1, .int o33.2.1, .int o33.2.2, .ref a1, g11, g12, g13, g14, g15, g16, g17, g18, g19, g20, g21, .ref a2, g22, .ref a3, .ref a4, .int m_h.2.2.1, .int m_h.2.2.2, g23, g24, g25, g26, g27, g28, .int m_c.1, .int m_c.2.1, .int m_c.2.2]))])) := hD
    obtain rfl := Option.some.inj h
    have hP9 := hP.sub (ws' := ((a0, .inr (9, [.int o33.1, .int o33.2.1, .int o33.2.2, .ref a1, g11, g12, g13, g14, g15, g16, g17, g18, g19, g20, g21, .ref a2, g22, .ref a3, .ref a4, .int m_h.2.2.1, .int m_h.2.2.2, g23, g24, g25, g26, g27, g28, .int m_c.1, .int m_c.2.1, .int m_c.2.2])) :: bX11 a1 uq kq q_q ([(a2, .inl (cB30, 26, .inl m_v)), (a3, .inl (cB31, 416, .inl m_h.1)), (a4, .inl (cB32, 78, .inl m_h.2.1))]))) [18, 0, 1, 2, 3, 4, 5, 6, 7, 8, 9, 10, 11, 12, 13, 14, 15, 16, 17] rfl
    have hD9 := hD.sub (ws' := ((a0, .inr (9, [.int o33.1, .int o33.2.1, .int o33.2.2, .ref a1, g11, g12, g13, g14, g15, g16, g17, g18, g19, g20, g21, .ref a2, g22, .ref a3, .ref a4, .int m_h.2.2.1, .int m_h.2.2.2, g23, g24, g25, g26, g27, g28, .int m_c.1, .int m_c.2.1, .int m_c.2.2])) :: bX11 a1 uq kq q_q ([(a2, .inl (cB30, 26, .inl m_v)), (a3, .inl (cB31, 416, .inl m_h.1)), (a4, .inl (cB32, 78, .inl m_h.2.1))]))) [18, 0, 1, 2, 3, 4, 5, 6, 7, 8, 9, 10, 11, 12, 13, 14, 15, 16, 17] (by decide) rfl
    have hK9 := hK.sub (tys' := []) [] rfl
    rw [hQQ]
    exact W.iret (v := (-1 : Int32)) hx hb hr (fun t ht hW => ⟨⟨(-1 : Int32), (), rfl, rfl, by rw [ht]; exact hP9, va_K.moved hW.alike hK9, hD9⟩, hS.F ht⟩) hS.2.2 dX12_day_36
theorem dX12_seed_0 : decode cX12_seed 0 = .ok (.aload_n 0, 1) := by decide +kernel
theorem dX12_seed_1 : decode cX12_seed 1 = .ok (.iconst 0, 1) := by decide +kernel
theorem dX12_seed_18 : decode cX12_seed 18 = .ok (.iload_n 1, 1) := by decide +kernel
theorem dX12_seed_19 : decode cX12_seed 19 = .ok (.iconst 0, 1) := by decide +kernel
theorem dX12_seed_2 : decode cX12_seed 2 = .ok (.putfield 36, 3) := by decide +kernel
theorem dX12_seed_20 : decode cX12_seed 20 = .ok (.ldc_w 489, 3) := by decide +kernel
theorem dX12_seed_23 : decode cX12_seed 23 = .ok (.invokestatic 115, 3) := by decide +kernel
theorem dX12_seed_26 : decode cX12_seed 26 = .ok (.ifCond .ne 9, 3) := by decide +kernel
theorem dX12_seed_29 : decode cX12_seed 29 = .ok (.aload_n 0, 1) := by decide +kernel
theorem dX12_seed_30 : decode cX12_seed 30 = .ok (.iconst 2, 1) := by decide +kernel
theorem dX12_seed_31 : decode cX12_seed 31 = .ok (.invokevirtual 498, 3) := by decide +kernel
theorem dX12_seed_34 : decode cX12_seed 34 = .ok (.ireturn, 1) := by decide +kernel
theorem dX12_seed_35 : decode cX12_seed 35 = .ok (.aload_n 0, 1) := by decide +kernel
theorem dX12_seed_36 : decode cX12_seed 36 = .ok (.getfield 17, 3) := by decide +kernel
theorem dX12_seed_39 : decode cX12_seed 39 = .ok (.bipush 24, 2) := by decide +kernel
theorem dX12_seed_41 : decode cX12_seed 41 = .ok (.iload_n 1, 1) := by decide +kernel
theorem dX12_seed_42 : decode cX12_seed 42 = .ok (.iastore, 1) := by decide +kernel
theorem dX12_seed_43 : decode cX12_seed 43 = .ok (.aload_n 0, 1) := by decide +kernel
theorem dX12_seed_44 : decode cX12_seed 44 = .ok (.invokevirtual 504, 3) := by decide +kernel
theorem dX12_seed_47 : decode cX12_seed 47 = .ok (.ireturn, 1) := by decide +kernel
theorem dX12_seed_5 : decode cX12_seed 5 = .ok (.aload_n 0, 1) := by decide +kernel
theorem dX12_seed_6 : decode cX12_seed 6 = .ok (.getfield 299, 3) := by decide +kernel
theorem dX12_seed_9 : decode cX12_seed 9 = .ok (.ifnonnull 9, 3) := by decide +kernel
def vfX12_seed : List Cond := List.cons (.code yX12_seed cX12_seed 2 (some .boolean)) (apW [.fieldLink RX12 36 "HookPierModel" "thrown" "I", .fieldLink RX12 299 "HookPierModel" "pier" "LHookPierModel$Pier;", .constant RX12 489 (65536), .methodLink RX12 115 yX12_in, .static yX12_in, .initialized RX12, .fieldLink RX12 17 "HookPierModel" "v" "[I", .methodLink RX12 504 yX12_granted, .instanceMethod yX12_granted, .selects RX12 yX12_granted yX12_granted, .methodLink RX12 498 yX12_denied, .instanceMethod yX12_denied, .selects RX12 yX12_denied yX12_denied] (apW wsX120 (apW vfX12_in (apW vfX12_granted (vfX12_denied)))))
theorem ifX12_seed_X12 : ∀ w ∈ wsX120, w ∈ vfX12_seed := fun _ h => (List.mem_cons_of_mem _ (List.mem_append_right _ (List.mem_append_left _ h)))
theorem qfX12_seed : Good vfX12_seed := gd_cons (by decide +kernel) (gd_app (gd_dec (by decide +kernel) : Good [.fieldLink RX12 36 "HookPierModel" "thrown" "I", .fieldLink RX12 299 "HookPierModel" "pier" "LHookPierModel$Pier;", .constant RX12 489 (65536), .methodLink RX12 115 yX12_in, .static yX12_in, .initialized RX12, .fieldLink RX12 17 "HookPierModel" "v" "[I", .methodLink RX12 504 yX12_granted, .instanceMethod yX12_granted, .selects RX12 yX12_granted yX12_granted, .methodLink RX12 498 yX12_denied, .instanceMethod yX12_denied, .selects RX12 yX12_denied yX12_denied]) (gd_app qsX12 (gd_app qfX12_in (gd_app qfX12_granted qfX12_denied))))
theorem gfX12_seed_0 : GoodIn vfX12_seed (va_wsS RX12 115 yX12_in vfX12_in) := goodIn_app (goodIn_r [.methodLink RX12 115 yX12_in, .static yX12_in, .initialized RX12] [4, 5, 6] rfl (by decide +kernel)) (goodIn_m (fun _ h => (List.mem_cons_of_mem _ (List.mem_append_right _ (List.mem_append_right _ (List.mem_append_left _ h))))) qfX12_in)
theorem gfX12_seed_1 : GoodIn vfX12_seed (wsV RX12 504 RX12 yX12_granted vfX12_granted) := goodIn_app (goodIn_r [.methodLink RX12 504 yX12_granted, .instanceMethod yX12_granted, .selects RX12 yX12_granted yX12_granted, .initialized RX12] [8, 9, 10, 6] rfl (by decide +kernel)) (goodIn_m (fun _ h => (List.mem_cons_of_mem _ (List.mem_append_right _ (List.mem_append_right _ (List.mem_append_right _ (List.mem_append_left _ h)))))) qfX12_granted)
theorem gfX12_seed_2 : GoodIn vfX12_seed (wsV RX12 498 RX12 yX12_denied vfX12_denied) := goodIn_app (goodIn_r [.methodLink RX12 498 yX12_denied, .instanceMethod yX12_denied, .selects RX12 yX12_denied yX12_denied, .initialized RX12] [11, 12, 13, 6] rfl (by decide +kernel)) (goodIn_m (fun _ h => (List.mem_cons_of_mem _ (List.mem_append_right _ (List.mem_append_right _ (List.mem_append_right _ (List.mem_append_right _ h)))))) qfX12_denied)
set_option maxHeartbeats 2000000 in
set_option maxRecDepth 100000 in
theorem kfX12_seed (l : Launch) (dC : Nat → ClassId) (dI : Nat → Nat → Nat) (a0 : Nat) (k1 : Int32) (a2 : Nat) (m_t : TX12_t) (m_v : TX12_v) (a5 : Nat) (g6 : Value) (g7 : Value) (g8 : Value) (g9 : Value) (g10 : Value) (g11 : Value) (g12 : Value) (g13 : Value) (g14 : Value) (g15 : Value) (g16 : Value) (g17 : Value) (g18 : Value) (g19 : Value) (g20 : Value) (g21 : Value) (g22 : Value) (g23 : Value) (g24 : Value) (g25 : Value) (g26 : Value) (g27 : Value) (g28 : Value) (g29 : Value) (g30 : Value) (cB31 : ClassId) (sz : Nat) (out : (Int32 × TX12_t × TX12_v)) (h : f_X12_seed k1 m_t m_v = out) : Met l yX12_seed vfX12_seed ({ frames := 2, cells := 0, slots := 0, locals := 42 }) (PC (dC, dI) [.ref a0, .int k1] sz ([(a0, .inr (9, [.int m_t.1, .int m_t.2.1, .int m_t.2.2, .ref a5, g6, g7, g8, g9, g10, g11, g12, g13, g14, g15, g16, .ref a2, g17, g18, g19, g20, g21, g22, g23, g24, g25, g26, g27, g28, g29, g30])), (a2, .inl (cB31, 26, .inl m_v))]) ((cB31, .int) :: [])) (va_Qi (S := Unit) (fun (r : Int32) _ => r = out.1 ∧ (0 ≤ r.toInt ∧ r.toInt ≤ 1)) (fun _ t => BC (dC, dI) (va_A ([(a0, .inr (9, [.int m_t.1, .int m_t.2.1, .int m_t.2.2, .ref a5, g6, g7, g8, g9, g10, g11, g12, g13, g14, g15, g16, .ref a2, g17, g18, g19, g20, g21, g22, g23, g24, g25, g26, g27, g28, g29, g30])), (a2, .inl (cB31, 26, .inl m_v))]) sz) ([(a0, .inr (9, [.int out.2.1.1, .int out.2.1.2.1, .int out.2.1.2.2, .ref a5, g6, g7, g8, g9, g10, g11, g12, g13, g14, g15, g16, .ref a2, g17, g18, g19, g20, g21, g22, g23, g24, g25, g26, g27, g28, g29, g30])), (a2, .inl (cB31, 26, .inl out.2.2))]) [] t) (va_A ([(a0, .inr (9, [.int m_t.1, .int m_t.2.1, .int m_t.2.2, .ref a5, g6, g7, g8, g9, g10, g11, g12, g13, g14, g15, g16, .ref a2, g17, g18, g19, g20, g21, g22, g23, g24, g25, g26, g27, g28, g29, g30])), (a2, .inl (cB31, 26, .inl m_v))]) sz)) 0 0 (va_A ([(a0, .inr (9, [.int m_t.1, .int m_t.2.1, .int m_t.2.2, .ref a5, g6, g7, g8, g9, g10, g11, g12, g13, g14, g15, g16, .ref a2, g17, g18, g19, g20, g21, g22, g23, g24, g25, g26, g27, g28, g29, g30])), (a2, .inl (cB31, 26, .inl m_v))]) sz) := by
  refine Met.ofW (cc := cX12_seed) (maxL := 2) (ret := (some .boolean)) (by decide) rfl ?_
  intro p e s m args below meth c s₁ B0 hml hv
  obtain ⟨rfl, hsz, hP, hK, hD0, hN⟩ := hv
  have hx := B0.exec
  have hb := B0.bytes
  have hr := B0.returns
  have hts := atoms_spec (ws := vfX12_seed) B0.pre
  have hown : s.vm.findClass RX12 = some m.cls := findClass_of_methodNamed B0.named
  have hlocks := B0.notSynchronized
  subst hsz
  have hD := hD0.self (sz := s.heap.size)
  generalize hAe : va_A ([(a0, .inr (9, [.int m_t.1, .int m_t.2.1, .int m_t.2.2, .ref a5, g6, g7, g8, g9, g10, g11, g12, g13, g14, g15, g16, .ref a2, g17, g18, g19, g20, g21, g22, g23, g24, g25, g26, g27, g28, g29, g30])), (a2, .inl (cB31, 26, .inl m_v))]) s.heap.size = A at hD ⊢
  have hA : ∀ q : Nat, s.heap.size ≤ q → A q := fun q h => by rw [← hAe]; exact Or.inr h
  have hS : va_S A s.heap s.heap [] := va_S.rf
  have hP : va_P (dC, dI) vwCl ([(a0, .inr (9, [.int m_t.1, .int m_t.2.1, .int m_t.2.2, .ref a5, g6, g7, g8, g9, g10, g11, g12, g13, g14, g15, g16, .ref a2, g17, g18, g19, g20, g21, g22, g23, g24, g25, g26, g27, g28, g29, g30])), (a2, .inl (cB31, 26, .inl m_v))]) s.heap := hP
  have hl := lv_entry ([.ref a0, .int k1]) (n := 2) (Nat.le_of_ble_eq_true rfl)
  rw [lg_entry_eq]
  generalize (lg_sl ([.ref a0, .int k1]) ++ List.replicate (2 - (lg_sl ([.ref a0, .int k1])).length) Slot.unset).toArray = ls at hl ⊢
  have hl : lv_has ls 2 [(0, .ref a0), (1, .int k1)] := hl
  refine W_q (fun QQ hQQ => ?_)
  rw [f_X12_seed] at h
  refine lv_aload_n hx hb dX12_seed_0 rfl (lv_at hl 0 rfl) ?_
  refine lv_iconst (v := 0) hx hb dX12_seed_1 (by decide) ?_
  refine va_put (D := (dC, dI)) (ci := 9) (v := .int 0) (ty := .int) (C := RX12) (T := TX12) (N := 30) hx hb hts ifX12_seed_X12 tyX12 tyX12_ok nmX12 hown hK hP hD hS 0 rfl rfl 0 (by decide) (hts (.fieldLink RX12 36 "HookPierModel" "thrown" "I") (List.mem_of_getElem? (i := 1) rfl)) (fun _ h9 => h9) rfl (by decide +kernel) rfl rfl (Nat.le_of_ble_eq_true rfl) dX12_seed_2 (fun H locs hP hD hS => ?_)
  have hP : va_P (dC, dI) vwCl ([(a0, .inr (9, [.int 0, .int m_t.2.1, .int m_t.2.2, .ref a5, g6, g7, g8, g9, g10, g11, g12, g13, g14, g15, g16, .ref a2, g17, g18, g19, g20, g21, g22, g23, g24, g25, g26, g27, g28, g29, g30])), (a2, .inl (cB31, 26, .inl m_v))]) H := hP
  have hD : va_D A ([(a0, .inr (9, [.int 0, .int m_t.2.1, .int m_t.2.2, .ref a5, g6, g7, g8, g9, g10, g11, g12, g13, g14, g15, g16, .ref a2, g17, g18, g19, g20, g21, g22, g23, g24, g25, g26, g27, g28, g29, g30])), (a2, .inl (cB31, 26, .inl m_v))]) := hD
  refine lv_aload_n hx hb dX12_seed_5 rfl (lv_at hl 0 rfl) ?_
  refine va_get (D := (dC, dI)) (ci := 9) (v := .ref a5) (C := RX12) (T := TX12) (N := 30) hx hb hts ifX12_seed_X12 hown hK hP 0 rfl rfl 3 (by decide) (hts (.fieldLink RX12 299 "HookPierModel" "pier" "LHookPierModel$Pier;") (List.mem_of_getElem? (i := 2) rfl)) (fun _ h9 => h9) rfl dX12_seed_6 ?_
  refine lv_ifnonnull (tgt := 18) hx hb dX12_seed_9 (by decide) ?_
  refine lv_iload_n hx hb dX12_seed_18 rfl (lv_at hl 1 rfl) ?_
  refine lv_iconst (v := 0) hx hb dX12_seed_19 (by decide) ?_
  refine lv_ldcw hx hb hown (hts (.constant RX12 489 (65536)) (List.mem_of_getElem? (i := 3) rfl)) dX12_seed_20 ?_
  obtain ⟨o23, eo23⟩ : ∃ o, o = f_X12_in k1 (0 : Int32) (65536 : Int32) := ⟨_, rfl⟩
  have h := nm_of h o23 eo23
  refine cl_i (wc := []) (wr := ([(a0, .inr (9, [.int 0, .int m_t.2.1, .int m_t.2.2, .ref a5, g6, g7, g8, g9, g10, g11, g12, g13, g14, g15, g16, .ref a2, g17, g18, g19, g20, g21, g22, g23, g24, g25, g26, g27, g28, g29, g30])), (a2, .inl (cB31, 26, .inl m_v))])) (va_runS (As := [.int k1, .int 0, .int 65536]) (rest := []) ⟨hx, hb, hml, hown, hts⟩ (kfX12_in l dC dI k1 (0 : Int32) (65536 : Int32) H.size o23 eo23.symm) (va_cwS 3 hts gfX12_seed_0 rfl rfl rfl (by decide +kernel) ⟨(Nat.le_of_ble_eq_true rfl), (Nat.le_of_ble_eq_true rfl)⟩) (PS (hP.sub (ws' := []) [] rfl) (hK.sub (tys' := ([])) [] rfl) (hD.sub (ws' := []) [] (by decide) rfl) hN) rfl rfl hl.1 rfl (lv_room (Nat.le_of_ble_eq_true rfl)) dX12_seed_23 ⟨(Nat.le_of_ble_eq_true rfl), (Nat.le_of_ble_eq_true rfl)⟩) hP hD hK hS hA [] [0, 1] rfl rfl (by decide) (by decide) (fun r23 _ H locs hw hP hD _ hS => ?_)
  obtain ⟨hw, br23⟩ := hw
  obtain rfl := hw.symm
  have hP : va_P (dC, dI) vwCl ([(a0, .inr (9, [.int 0, .int m_t.2.1, .int m_t.2.2, .ref a5, g6, g7, g8, g9, g10, g11, g12, g13, g14, g15, g16, .ref a2, g17, g18, g19, g20, g21, g22, g23, g24, g25, g26, g27, g28, g29, g30])), (a2, .inl (cB31, 26, .inl m_v))]) H := hP
  have hD : va_D A ([(a0, .inr (9, [.int 0, .int m_t.2.1, .int m_t.2.2, .ref a5, g6, g7, g8, g9, g10, g11, g12, g13, g14, g15, g16, .ref a2, g17, g18, g19, g20, g21, g22, g23, g24, g25, g26, g27, g28, g29, g30])), (a2, .inl (cB31, 26, .inl m_v))]) := hD
  refine lv_if_ne (tgt := 35) hx hb dX12_seed_26 (by decide) (fun c26 => ?_) (fun c26 => ?_)
  · have h := (if_neg c26).symm.trans h
    refine lv_aload_n hx hb dX12_seed_35 rfl (lv_at hl 0 rfl) ?_
    refine va_get (D := (dC, dI)) (ci := 9) (v := .ref a2) (C := RX12) (T := TX12) (N := 30) hx hb hts ifX12_seed_X12 hown hK hP 0 rfl rfl 15 (by decide) (hts (.fieldLink RX12 17 "HookPierModel" "v" "[I") (List.mem_of_getElem? (i := 7) rfl)) (fun _ h9 => h9) rfl dX12_seed_36 ?_
    refine lv_bipush (v := 24) hx hb dX12_seed_39 (by decide) ?_
    refine lv_iload_n hx hb dX12_seed_41 rfl (lv_at hl 1 rfl) ?_
    refine va_iast hx hb hK hP hD hS 1 0 rfl rfl (by unfold vp_in; decide) dX12_seed_42 (fun H locs hP hD hS => ?_)
    have hP : va_P (dC, dI) vwCl ([(a0, .inr (9, [.int 0, .int m_t.2.1, .int m_t.2.2, .ref a5, g6, g7, g8, g9, g10, g11, g12, g13, g14, g15, g16, .ref a2, g17, g18, g19, g20, g21, g22, g23, g24, g25, g26, g27, g28, g29, g30])), (a2, .inl (cB31, 26, .inl (upd m_v ((24 : Int32)).toNatClampNeg k1)))]) H := hP
    have hD : va_D A ([(a0, .inr (9, [.int 0, .int m_t.2.1, .int m_t.2.2, .ref a5, g6, g7, g8, g9, g10, g11, g12, g13, g14, g15, g16, .ref a2, g17, g18, g19, g20, g21, g22, g23, g24, g25, g26, g27, g28, g29, g30])), (a2, .inl (cB31, 26, .inl (upd m_v ((24 : Int32)).toNatClampNeg k1)))]) := hD
    refine lv_aload_n hx hb dX12_seed_43 rfl (lv_at hl 0 rfl) ?_
    obtain ⟨o44, eo44⟩ : ∃ o, o = f_X12_granted ((0 : Int32), m_t.2) := ⟨_, rfl⟩
    have h := nm_of h o44 eo44
    refine cl_i (wc := ([(a0, .inr (9, [.int 0, .int m_t.2.1, .int m_t.2.2, .ref a5, g6, g7, g8, g9, g10, g11, g12, g13, g14, g15, g16, .ref a2, g17, g18, g19, g20, g21, g22, g23, g24, g25, g26, g27, g28, g29, g30]))])) (wr := ([(a2, .inl (cB31, 26, .inl (upd m_v ((24 : Int32)).toNatClampNeg k1)))])) (va_runV (As := []) (rest := []) ⟨hx, hb, hml, hown, hts⟩ (kfX12_granted l dC dI a0 ((0 : Int32), m_t.2) (.ref a5) (g6) (g7) (g8) (g9) (g10) (g11) (g12) (g13) (g14) (g15) (g16) (.ref a2) (g17) (g18) (g19) (g20) (g21) (g22) (g23) (g24) (g25) (g26) (g27) (g28) (g29) (g30) H.size o44 eo44.symm) (cwV 0 hts gfX12_seed_1 rfl rfl rfl (by decide +kernel) ⟨(Nat.le_of_ble_eq_true rfl), (Nat.le_of_ble_eq_true rfl)⟩) (PV (hP.sub (ws' := ([(a0, .inr (9, [.int 0, .int m_t.2.1, .int m_t.2.2, .ref a5, g6, g7, g8, g9, g10, g11, g12, g13, g14, g15, g16, .ref a2, g17, g18, g19, g20, g21, g22, g23, g24, g25, g26, g27, g28, g29, g30]))])) [0] rfl) (hK.sub (tys' := ([])) [] rfl) (hD.sub (ws' := ([(a0, .inr (9, [.int 0, .int m_t.2.1, .int m_t.2.2, .ref a5, g6, g7, g8, g9, g10, g11, g12, g13, g14, g15, g16, .ref a2, g17, g18, g19, g20, g21, g22, g23, g24, g25, g26, g27, g28, g29, g30]))])) [0] (by decide) rfl) hN 0 rfl rfl) rfl rfl hl.1 rfl (lv_room (Nat.le_of_ble_eq_true rfl)) dX12_seed_44 ⟨(Nat.le_of_ble_eq_true rfl), (Nat.le_of_ble_eq_true rfl)⟩) hP hD hK hS hA [0] [1] rfl rfl (by decide) (by decide) (fun r44 _ H locs hw hP hD _ hS => ?_)
    obtain ⟨hw, br44⟩ := hw
    obtain rfl := hw
    have hP : va_P (dC, dI) vwCl ([(a2, .inl (cB31, 26, .inl (upd m_v ((24 : Int32)).toNatClampNeg k1))), (a0, .inr (9, [.int o44.1, .int o44.2.1, .int o44.2.2, .ref a5, g6, g7, g8, g9, g10, g11, g12, g13, g14, g15, g16, .ref a2, g17, g18, g19, g20, g21, g22, g23, g24, g25, g26, g27, g28, g29, g30]))]) H := hP
    have hD : va_D A ([(a2, .inl (cB31, 26, .inl (upd m_v ((24 : Int32)).toNatClampNeg k1))), (a0, .inr (9, [.int o44.1, .int o44.2.1, .int o44.2.2, .ref a5, g6, g7, g8, g9, g10, g11, g12, g13, g14, g15, g16, .ref a2, g17, g18, g19, g20, g21, g22, g23, g24, g25, g26, g27, g28, g29, g30]))]) := hD
    obtain rfl := h
    have hP9 := hP.sub (ws' := ([(a0, .inr (9, [.int o44.1, .int o44.2.1, .int o44.2.2, .ref a5, g6, g7, g8, g9, g10, g11, g12, g13, g14, g15, g16, .ref a2, g17, g18, g19, g20, g21, g22, g23, g24, g25, g26, g27, g28, g29, g30])), (a2, .inl (cB31, 26, .inl (upd m_v ((24 : Int32)).toNatClampNeg k1)))])) [1, 0] rfl
    have hD9 := hD.sub (ws' := ([(a0, .inr (9, [.int o44.1, .int o44.2.1, .int o44.2.2, .ref a5, g6, g7, g8, g9, g10, g11, g12, g13, g14, g15, g16, .ref a2, g17, g18, g19, g20, g21, g22, g23, g24, g25, g26, g27, g28, g29, g30])), (a2, .inl (cB31, 26, .inl (upd m_v ((24 : Int32)).toNatClampNeg k1)))])) [1, 0] (by decide) rfl
    have hK9 := hK.sub (tys' := []) [] rfl
    rw [hQQ]
    exact W.zret (v := (1 : Int32)) hx hb hr rfl (fun t ht hW => ⟨⟨(1 : Int32), (), rfl, ⟨rfl, (by decide)⟩, by rw [ht]; exact hP9, va_K.moved hW.alike hK9, hD9⟩, hS.F ht⟩) hS.2.2 dX12_seed_47
  · have h := (if_pos c26).symm.trans h
    refine lv_aload_n hx hb dX12_seed_29 rfl (lv_at hl 0 rfl) ?_
    refine lv_iconst (v := 2) hx hb dX12_seed_30 (by decide) ?_
    obtain ⟨o31, eo31⟩ : ∃ o, o = f_X12_denied (2 : Int32) ((0 : Int32), m_t.2) := ⟨_, rfl⟩
    have h := nm_of h o31 eo31
    refine cl_i (wc := ([(a0, .inr (9, [.int 0, .int m_t.2.1, .int m_t.2.2, .ref a5, g6, g7, g8, g9, g10, g11, g12, g13, g14, g15, g16, .ref a2, g17, g18, g19, g20, g21, g22, g23, g24, g25, g26, g27, g28, g29, g30]))])) (wr := ([(a2, .inl (cB31, 26, .inl m_v))])) (va_runV (As := [.int 2]) (rest := []) ⟨hx, hb, hml, hown, hts⟩ (kfX12_denied l dC dI a0 (2 : Int32) ((0 : Int32), m_t.2) (.ref a5) (g6) (g7) (g8) (g9) (g10) (g11) (g12) (g13) (g14) (g15) (g16) (.ref a2) (g17) (g18) (g19) (g20) (g21) (g22) (g23) (g24) (g25) (g26) (g27) (g28) (g29) (g30) H.size o31 eo31.symm) (cwV 1 hts gfX12_seed_2 rfl rfl rfl (by decide +kernel) ⟨(Nat.le_of_ble_eq_true rfl), (Nat.le_of_ble_eq_true rfl)⟩) (PV (hP.sub (ws' := ([(a0, .inr (9, [.int 0, .int m_t.2.1, .int m_t.2.2, .ref a5, g6, g7, g8, g9, g10, g11, g12, g13, g14, g15, g16, .ref a2, g17, g18, g19, g20, g21, g22, g23, g24, g25, g26, g27, g28, g29, g30]))])) [0] rfl) (hK.sub (tys' := ([])) [] rfl) (hD.sub (ws' := ([(a0, .inr (9, [.int 0, .int m_t.2.1, .int m_t.2.2, .ref a5, g6, g7, g8, g9, g10, g11, g12, g13, g14, g15, g16, .ref a2, g17, g18, g19, g20, g21, g22, g23, g24, g25, g26, g27, g28, g29, g30]))])) [0] (by decide) rfl) hN 0 rfl rfl) rfl rfl hl.1 rfl (lv_room (Nat.le_of_ble_eq_true rfl)) dX12_seed_31 ⟨(Nat.le_of_ble_eq_true rfl), (Nat.le_of_ble_eq_true rfl)⟩) hP hD hK hS hA [0] [1] rfl rfl (by decide) (by decide) (fun r31 _ H locs hw hP hD _ hS => ?_)
    obtain ⟨hw, br31⟩ := hw
    obtain rfl := hw
    have hP : va_P (dC, dI) vwCl ([(a2, .inl (cB31, 26, .inl m_v)), (a0, .inr (9, [.int o31.1, .int o31.2.1, .int o31.2.2, .ref a5, g6, g7, g8, g9, g10, g11, g12, g13, g14, g15, g16, .ref a2, g17, g18, g19, g20, g21, g22, g23, g24, g25, g26, g27, g28, g29, g30]))]) H := hP
    have hD : va_D A ([(a2, .inl (cB31, 26, .inl m_v)), (a0, .inr (9, [.int o31.1, .int o31.2.1, .int o31.2.2, .ref a5, g6, g7, g8, g9, g10, g11, g12, g13, g14, g15, g16, .ref a2, g17, g18, g19, g20, g21, g22, g23, g24, g25, g26, g27, g28, g29, g30]))]) := hD
    obtain rfl := h
    have hP9 := hP.sub (ws' := ([(a0, .inr (9, [.int o31.1, .int o31.2.1, .int o31.2.2, .ref a5, g6, g7, g8, g9, g10, g11, g12, g13, g14, g15, g16, .ref a2, g17, g18, g19, g20, g21, g22, g23, g24, g25, g26, g27, g28, g29, g30])), (a2, .inl (cB31, 26, .inl m_v))])) [1, 0] rfl
    have hD9 := hD.sub (ws' := ([(a0, .inr (9, [.int o31.1, .int o31.2.1, .int o31.2.2, .ref a5, g6, g7, g8, g9, g10, g11, g12, g13, g14, g15, g16, .ref a2, g17, g18, g19, g20, g21, g22, g23, g24, g25, g26, g27, g28, g29, g30])), (a2, .inl (cB31, 26, .inl m_v))])) [1, 0] (by decide) rfl
    have hK9 := hK.sub (tys' := []) [] rfl
    rw [hQQ]
    exact W.zret (v := (0 : Int32)) hx hb hr rfl (fun t ht hW => ⟨⟨(0 : Int32), (), rfl, ⟨rfl, (by decide)⟩, by rw [ht]; exact hP9, va_K.moved hW.alike hK9, hD9⟩, hS.F ht⟩) hS.2.2 dX12_seed_34
theorem dX12_undo_0 : decode cX12_undo 0 = .ok (.aload_n 0, 1) := by decide +kernel
theorem dX12_undo_1 : decode cX12_undo 1 = .ok (.iconst 0, 1) := by decide +kernel
theorem dX12_undo_12 : decode cX12_undo 12 = .ok (.aload_n 0, 1) := by decide +kernel
theorem dX12_undo_13 : decode cX12_undo 13 = .ok (.getfield 301, 3) := by decide +kernel
theorem dX12_undo_16 : decode cX12_undo 16 = .ok (.ifCond .ne 10, 3) := by decide +kernel
theorem dX12_undo_19 : decode cX12_undo 19 = .ok (.aload_n 0, 1) := by decide +kernel
theorem dX12_undo_2 : decode cX12_undo 2 = .ok (.putfield 36, 3) := by decide +kernel
theorem dX12_undo_20 : decode cX12_undo 20 = .ok (.bipush 6, 2) := by decide +kernel
theorem dX12_undo_22 : decode cX12_undo 22 = .ok (.invokevirtual 498, 3) := by decide +kernel
theorem dX12_undo_25 : decode cX12_undo 25 = .ok (.ireturn, 1) := by decide +kernel
theorem dX12_undo_26 : decode cX12_undo 26 = .ok (.aload_n 0, 1) := by decide +kernel
theorem dX12_undo_27 : decode cX12_undo 27 = .ok (.dup, 1) := by decide +kernel
theorem dX12_undo_28 : decode cX12_undo 28 = .ok (.getfield 301, 3) := by decide +kernel
theorem dX12_undo_31 : decode cX12_undo 31 = .ok (.iconst 1, 1) := by decide +kernel
theorem dX12_undo_32 : decode cX12_undo 32 = .ok (.isub, 1) := by decide +kernel
theorem dX12_undo_33 : decode cX12_undo 33 = .ok (.putfield 301, 3) := by decide +kernel
theorem dX12_undo_36 : decode cX12_undo 36 = .ok (.iconst 0, 1) := by decide +kernel
theorem dX12_undo_37 : decode cX12_undo 37 = .ok (.istore_n 1, 1) := by decide +kernel
theorem dX12_undo_38 : decode cX12_undo 38 = .ok (.iload_n 1, 1) := by decide +kernel
theorem dX12_undo_39 : decode cX12_undo 39 = .ok (.bipush 26, 2) := by decide +kernel
theorem dX12_undo_41 : decode cX12_undo 41 = .ok (.if_icmp .ge 29, 3) := by decide +kernel
theorem dX12_undo_44 : decode cX12_undo 44 = .ok (.aload_n 0, 1) := by decide +kernel
theorem dX12_undo_45 : decode cX12_undo 45 = .ok (.getfield 17, 3) := by decide +kernel
theorem dX12_undo_48 : decode cX12_undo 48 = .ok (.iload_n 1, 1) := by decide +kernel
theorem dX12_undo_49 : decode cX12_undo 49 = .ok (.aload_n 0, 1) := by decide +kernel
theorem dX12_undo_5 : decode cX12_undo 5 = .ok (.aload_n 0, 1) := by decide +kernel
theorem dX12_undo_50 : decode cX12_undo 50 = .ok (.getfield 24, 3) := by decide +kernel
theorem dX12_undo_53 : decode cX12_undo 53 = .ok (.bipush 26, 2) := by decide +kernel
theorem dX12_undo_55 : decode cX12_undo 55 = .ok (.aload_n 0, 1) := by decide +kernel
theorem dX12_undo_56 : decode cX12_undo 56 = .ok (.getfield 301, 3) := by decide +kernel
theorem dX12_undo_59 : decode cX12_undo 59 = .ok (.imul, 1) := by decide +kernel
theorem dX12_undo_6 : decode cX12_undo 6 = .ok (.getfield 299, 3) := by decide +kernel
theorem dX12_undo_60 : decode cX12_undo 60 = .ok (.iload_n 1, 1) := by decide +kernel
theorem dX12_undo_61 : decode cX12_undo 61 = .ok (.iadd, 1) := by decide +kernel
theorem dX12_undo_62 : decode cX12_undo 62 = .ok (.iaload, 1) := by decide +kernel
theorem dX12_undo_63 : decode cX12_undo 63 = .ok (.iastore, 1) := by decide +kernel
theorem dX12_undo_64 : decode cX12_undo 64 = .ok (.iinc 1 1, 3) := by decide +kernel
theorem dX12_undo_67 : decode cX12_undo 67 = .ok (.goto (-29), 3) := by decide +kernel
theorem dX12_undo_70 : decode cX12_undo 70 = .ok (.aload_n 0, 1) := by decide +kernel
theorem dX12_undo_71 : decode cX12_undo 71 = .ok (.invokevirtual 504, 3) := by decide +kernel
theorem dX12_undo_74 : decode cX12_undo 74 = .ok (.ireturn, 1) := by decide +kernel
theorem dX12_undo_9 : decode cX12_undo 9 = .ok (.ifnull 10, 3) := by decide +kernel
def vfX12_undo : List Cond := List.cons (.code yX12_undo cX12_undo 2 (some .boolean)) (apW [.fieldLink RX12 36 "HookPierModel" "thrown" "I", .fieldLink RX12 299 "HookPierModel" "pier" "LHookPierModel$Pier;", .fieldLink RX12 301 "HookPierModel" "acts" "I", .methodLink RX12 504 yX12_granted, .instanceMethod yX12_granted, .selects RX12 yX12_granted yX12_granted, .initialized RX12, .fieldLink RX12 17 "HookPierModel" "v" "[I", .fieldLink RX12 24 "HookPierModel" "past" "[I", .methodLink RX12 498 yX12_denied, .instanceMethod yX12_denied, .selects RX12 yX12_denied yX12_denied] (apW wsX120 (apW vfX12_granted (vfX12_denied))))
theorem ifX12_undo_X12 : ∀ w ∈ wsX120, w ∈ vfX12_undo := fun _ h => (List.mem_cons_of_mem _ (List.mem_append_right _ (List.mem_append_left _ h)))
theorem qfX12_undo : Good vfX12_undo := gd_cons (by decide +kernel) (gd_app (gd_dec (by decide +kernel) : Good [.fieldLink RX12 36 "HookPierModel" "thrown" "I", .fieldLink RX12 299 "HookPierModel" "pier" "LHookPierModel$Pier;", .fieldLink RX12 301 "HookPierModel" "acts" "I", .methodLink RX12 504 yX12_granted, .instanceMethod yX12_granted, .selects RX12 yX12_granted yX12_granted, .initialized RX12, .fieldLink RX12 17 "HookPierModel" "v" "[I", .fieldLink RX12 24 "HookPierModel" "past" "[I", .methodLink RX12 498 yX12_denied, .instanceMethod yX12_denied, .selects RX12 yX12_denied yX12_denied]) (gd_app qsX12 (gd_app qfX12_granted qfX12_denied)))
theorem gfX12_undo_0 : GoodIn vfX12_undo (wsV RX12 504 RX12 yX12_granted vfX12_granted) := goodIn_app (goodIn_r [.methodLink RX12 504 yX12_granted, .instanceMethod yX12_granted, .selects RX12 yX12_granted yX12_granted, .initialized RX12] [4, 5, 6, 7] rfl (by decide +kernel)) (goodIn_m (fun _ h => (List.mem_cons_of_mem _ (List.mem_append_right _ (List.mem_append_right _ (List.mem_append_left _ h))))) qfX12_granted)
theorem gfX12_undo_1 : GoodIn vfX12_undo (wsV RX12 498 RX12 yX12_denied vfX12_denied) := goodIn_app (goodIn_r [.methodLink RX12 498 yX12_denied, .instanceMethod yX12_denied, .selects RX12 yX12_denied yX12_denied, .initialized RX12] [10, 11, 12, 7] rfl (by decide +kernel)) (goodIn_m (fun _ h => (List.mem_cons_of_mem _ (List.mem_append_right _ (List.mem_append_right _ (List.mem_append_right _ h))))) qfX12_denied)
set_option maxHeartbeats 2000000 in
set_option maxRecDepth 100000 in
theorem kfX12_undo (l : Launch) (dC : Nat → ClassId) (dI : Nat → Nat → Nat) (a0 : Nat) (a1 : Nat) (a2 : Nat) (a3 : Nat) (m_t : TX12_t) (m_v : TX12_v) (m_h : TX12_h) (a7 : Nat) (g8 : Value) (g9 : Value) (g10 : Value) (g11 : Value) (g12 : Value) (g13 : Value) (g14 : Value) (g15 : Value) (g16 : Value) (g17 : Value) (g18 : Value) (g19 : Value) (g20 : Value) (g21 : Value) (g22 : Value) (g23 : Value) (g24 : Value) (g25 : Value) (g26 : Value) (g27 : Value) (g28 : Value) (cB29 : ClassId) (cB30 : ClassId) (cB31 : ClassId) (sz : Nat) (out : (Int32 × TX12_t × TX12_v × TX12_h)) (h : f_X12_undo m_t m_v m_h = some out) : Met l yX12_undo vfX12_undo ({ frames := 2, cells := 0, slots := 0, locals := 42 }) (PC (dC, dI) [.ref a0] sz ([(a0, .inr (9, [.int m_t.1, .int m_t.2.1, .int m_t.2.2, .ref a7, g8, g9, g10, g11, g12, g13, g14, g15, g16, g17, g18, .ref a1, g19, .ref a2, .ref a3, .int m_h.2.2.1, .int m_h.2.2.2, g20, g21, g22, g23, g24, g25, g26, g27, g28])), (a1, .inl (cB29, 26, .inl m_v)), (a2, .inl (cB30, 416, .inl m_h.1)), (a3, .inl (cB31, 78, .inl m_h.2.1))]) ((cB29, .int) :: (cB30, .int) :: (cB31, .int) :: [])) (va_Qi (S := Unit) (fun (r : Int32) _ => r = out.1 ∧ (0 ≤ r.toInt ∧ r.toInt ≤ 1)) (fun _ t => BC (dC, dI) (va_A ([(a0, .inr (9, [.int m_t.1, .int m_t.2.1, .int m_t.2.2, .ref a7, g8, g9, g10, g11, g12, g13, g14, g15, g16, g17, g18, .ref a1, g19, .ref a2, .ref a3, .int m_h.2.2.1, .int m_h.2.2.2, g20, g21, g22, g23, g24, g25, g26, g27, g28])), (a1, .inl (cB29, 26, .inl m_v)), (a2, .inl (cB30, 416, .inl m_h.1)), (a3, .inl (cB31, 78, .inl m_h.2.1))]) sz) ([(a0, .inr (9, [.int out.2.1.1, .int out.2.1.2.1, .int out.2.1.2.2, .ref a7, g8, g9, g10, g11, g12, g13, g14, g15, g16, g17, g18, .ref a1, g19, .ref a2, .ref a3, .int out.2.2.2.2.2.1, .int out.2.2.2.2.2.2, g20, g21, g22, g23, g24, g25, g26, g27, g28])), (a1, .inl (cB29, 26, .inl out.2.2.1)), (a2, .inl (cB30, 416, .inl out.2.2.2.1)), (a3, .inl (cB31, 78, .inl out.2.2.2.2.1))]) [] t) (va_A ([(a0, .inr (9, [.int m_t.1, .int m_t.2.1, .int m_t.2.2, .ref a7, g8, g9, g10, g11, g12, g13, g14, g15, g16, g17, g18, .ref a1, g19, .ref a2, .ref a3, .int m_h.2.2.1, .int m_h.2.2.2, g20, g21, g22, g23, g24, g25, g26, g27, g28])), (a1, .inl (cB29, 26, .inl m_v)), (a2, .inl (cB30, 416, .inl m_h.1)), (a3, .inl (cB31, 78, .inl m_h.2.1))]) sz)) 0 0 (va_A ([(a0, .inr (9, [.int m_t.1, .int m_t.2.1, .int m_t.2.2, .ref a7, g8, g9, g10, g11, g12, g13, g14, g15, g16, g17, g18, .ref a1, g19, .ref a2, .ref a3, .int m_h.2.2.1, .int m_h.2.2.2, g20, g21, g22, g23, g24, g25, g26, g27, g28])), (a1, .inl (cB29, 26, .inl m_v)), (a2, .inl (cB30, 416, .inl m_h.1)), (a3, .inl (cB31, 78, .inl m_h.2.1))]) sz) := by
  refine Met.ofW (cc := cX12_undo) (maxL := 2) (ret := (some .boolean)) (by decide) rfl ?_
  intro p e s m args below meth c s₁ B0 hml hv
  obtain ⟨rfl, hsz, hP, hK, hD0, hN⟩ := hv
  have hx := B0.exec
  have hb := B0.bytes
  have hr := B0.returns
  have hts := atoms_spec (ws := vfX12_undo) B0.pre
  have hown : s.vm.findClass RX12 = some m.cls := findClass_of_methodNamed B0.named
  have hlocks := B0.notSynchronized
  subst hsz
  have hD := hD0.self (sz := s.heap.size)
  generalize hAe : va_A ([(a0, .inr (9, [.int m_t.1, .int m_t.2.1, .int m_t.2.2, .ref a7, g8, g9, g10, g11, g12, g13, g14, g15, g16, g17, g18, .ref a1, g19, .ref a2, .ref a3, .int m_h.2.2.1, .int m_h.2.2.2, g20, g21, g22, g23, g24, g25, g26, g27, g28])), (a1, .inl (cB29, 26, .inl m_v)), (a2, .inl (cB30, 416, .inl m_h.1)), (a3, .inl (cB31, 78, .inl m_h.2.1))]) s.heap.size = A at hD ⊢
  have hA : ∀ q : Nat, s.heap.size ≤ q → A q := fun q h => by rw [← hAe]; exact Or.inr h
  have hS : va_S A s.heap s.heap [] := va_S.rf
  have hP : va_P (dC, dI) vwCl ([(a0, .inr (9, [.int m_t.1, .int m_t.2.1, .int m_t.2.2, .ref a7, g8, g9, g10, g11, g12, g13, g14, g15, g16, g17, g18, .ref a1, g19, .ref a2, .ref a3, .int m_h.2.2.1, .int m_h.2.2.2, g20, g21, g22, g23, g24, g25, g26, g27, g28])), (a1, .inl (cB29, 26, .inl m_v)), (a2, .inl (cB30, 416, .inl m_h.1)), (a3, .inl (cB31, 78, .inl m_h.2.1))]) s.heap := hP
  have hl := lv_entry ([.ref a0]) (n := 2) (Nat.le_of_ble_eq_true rfl)
  rw [lg_entry_eq]
  generalize (lg_sl ([.ref a0]) ++ List.replicate (2 - (lg_sl ([.ref a0])).length) Slot.unset).toArray = ls at hl ⊢
  have hl : lv_has ls 2 [(0, .ref a0)] := hl
  refine W_q (fun QQ hQQ => ?_)
  rw [f_X12_undo] at h
  refine lv_aload_n hx hb dX12_undo_0 rfl (lv_at hl 0 rfl) ?_
  refine lv_iconst (v := 0) hx hb dX12_undo_1 (by decide) ?_
  refine va_put (D := (dC, dI)) (ci := 9) (v := .int 0) (ty := .int) (C := RX12) (T := TX12) (N := 30) hx hb hts ifX12_undo_X12 tyX12 tyX12_ok nmX12 hown hK hP hD hS 0 rfl rfl 0 (by decide) (hts (.fieldLink RX12 36 "HookPierModel" "thrown" "I") (List.mem_of_getElem? (i := 1) rfl)) (fun _ h9 => h9) rfl (by decide +kernel) rfl rfl (Nat.le_of_ble_eq_true rfl) dX12_undo_2 (fun H locs hP hD hS => ?_)
  have hP : va_P (dC, dI) vwCl ([(a0, .inr (9, [.int 0, .int m_t.2.1, .int m_t.2.2, .ref a7, g8, g9, g10, g11, g12, g13, g14, g15, g16, g17, g18, .ref a1, g19, .ref a2, .ref a3, .int m_h.2.2.1, .int m_h.2.2.2, g20, g21, g22, g23, g24, g25, g26, g27, g28])), (a1, .inl (cB29, 26, .inl m_v)), (a2, .inl (cB30, 416, .inl m_h.1)), (a3, .inl (cB31, 78, .inl m_h.2.1))]) H := hP
  have hD : va_D A ([(a0, .inr (9, [.int 0, .int m_t.2.1, .int m_t.2.2, .ref a7, g8, g9, g10, g11, g12, g13, g14, g15, g16, g17, g18, .ref a1, g19, .ref a2, .ref a3, .int m_h.2.2.1, .int m_h.2.2.2, g20, g21, g22, g23, g24, g25, g26, g27, g28])), (a1, .inl (cB29, 26, .inl m_v)), (a2, .inl (cB30, 416, .inl m_h.1)), (a3, .inl (cB31, 78, .inl m_h.2.1))]) := hD
  refine lv_aload_n hx hb dX12_undo_5 rfl (lv_at hl 0 rfl) ?_
  refine va_get (D := (dC, dI)) (ci := 9) (v := .ref a7) (C := RX12) (T := TX12) (N := 30) hx hb hts ifX12_undo_X12 hown hK hP 0 rfl rfl 3 (by decide) (hts (.fieldLink RX12 299 "HookPierModel" "pier" "LHookPierModel$Pier;") (List.mem_of_getElem? (i := 2) rfl)) (fun _ h9 => h9) rfl dX12_undo_6 ?_
  refine lv_ifnull hx hb dX12_undo_9 ?_
  refine lv_aload_n hx hb dX12_undo_12 rfl (lv_at hl 0 rfl) ?_
  refine va_get (D := (dC, dI)) (ci := 9) (v := .int m_h.2.2.1) (C := RX12) (T := TX12) (N := 30) hx hb hts ifX12_undo_X12 hown hK hP 0 rfl rfl 19 (by decide) (hts (.fieldLink RX12 301 "HookPierModel" "acts" "I") (List.mem_of_getElem? (i := 3) rfl)) (fun _ h9 => h9) rfl dX12_undo_13 ?_
  refine lv_if_ne (tgt := 26) hx hb dX12_undo_16 (by decide) (fun c16 => ?_) (fun c16 => ?_)
  · have h := (if_neg c16).symm.trans h
    refine lv_aload_n hx hb dX12_undo_26 rfl (lv_at hl 0 rfl) ?_
    refine lv_dup hx hb dX12_undo_27 rfl ?_
    refine va_get (D := (dC, dI)) (ci := 9) (v := .int m_h.2.2.1) (C := RX12) (T := TX12) (N := 30) hx hb hts ifX12_undo_X12 hown hK hP 0 rfl rfl 19 (by decide) (hts (.fieldLink RX12 301 "HookPierModel" "acts" "I") (List.mem_of_getElem? (i := 3) rfl)) (fun _ h9 => h9) rfl dX12_undo_28 ?_
    refine lv_iconst (v := 1) hx hb dX12_undo_31 (by decide) ?_
    refine lv_isub hx hb dX12_undo_32 ?_
    refine va_put (D := (dC, dI)) (ci := 9) (v := .int (m_h.2.2.1 - (1 : Int32))) (ty := .int) (C := RX12) (T := TX12) (N := 30) hx hb hts ifX12_undo_X12 tyX12 tyX12_ok nmX12 hown hK hP hD hS 0 rfl rfl 19 (by decide) (hts (.fieldLink RX12 301 "HookPierModel" "acts" "I") (List.mem_of_getElem? (i := 3) rfl)) (fun _ h9 => h9) rfl (by decide +kernel) rfl rfl (Nat.le_of_ble_eq_true rfl) dX12_undo_33 (fun H locs hP hD hS => ?_)
    have hP : va_P (dC, dI) vwCl ([(a0, .inr (9, [.int 0, .int m_t.2.1, .int m_t.2.2, .ref a7, g8, g9, g10, g11, g12, g13, g14, g15, g16, g17, g18, .ref a1, g19, .ref a2, .ref a3, .int (m_h.2.2.1 - (1 : Int32)), .int m_h.2.2.2, g20, g21, g22, g23, g24, g25, g26, g27, g28])), (a1, .inl (cB29, 26, .inl m_v)), (a2, .inl (cB30, 416, .inl m_h.1)), (a3, .inl (cB31, 78, .inl m_h.2.1))]) H := hP
    have hD : va_D A ([(a0, .inr (9, [.int 0, .int m_t.2.1, .int m_t.2.2, .ref a7, g8, g9, g10, g11, g12, g13, g14, g15, g16, g17, g18, .ref a1, g19, .ref a2, .ref a3, .int (m_h.2.2.1 - (1 : Int32)), .int m_h.2.2.2, g20, g21, g22, g23, g24, g25, g26, g27, g28])), (a1, .inl (cB29, 26, .inl m_v)), (a2, .inl (cB30, 416, .inl m_h.1)), (a3, .inl (cB31, 78, .inl m_h.2.1))]) := hD
    refine lv_iconst (v := 0) hx hb dX12_undo_36 (by decide) ?_
    refine lv_istore_n (lv' := [(1, .int 0), (0, .ref a0)]) hx hb dX12_undo_37 rfl hl (by decide) rfl (fun ls hl => ?_)
    have L38 : ∀ (n38 : Nat) (v38_l1 : Int32) (v38_m_v : TX12_v) (H : Heap) (locs : List Loc) (ls : Array Slot), f_X12_undo_L38 m_t m_h n38 v38_l1 v38_m_v = some out → va_P (dC, dI) vwCl ([(a0, .inr (9, [.int 0, .int m_t.2.1, .int m_t.2.2, .ref a7, g8, g9, g10, g11, g12, g13, g14, g15, g16, g17, g18, .ref a1, g19, .ref a2, .ref a3, .int (m_h.2.2.1 - (1 : Int32)), .int m_h.2.2.2, g20, g21, g22, g23, g24, g25, g26, g27, g28])), (a1, .inl (cB29, 26, .inl v38_m_v)), (a2, .inl (cB30, 416, .inl m_h.1)), (a3, .inl (cB31, 78, .inl m_h.2.1))]) H → va_D A ([(a0, .inr (9, [.int 0, .int m_t.2.1, .int m_t.2.2, .ref a7, g8, g9, g10, g11, g12, g13, g14, g15, g16, g17, g18, .ref a1, g19, .ref a2, .ref a3, .int (m_h.2.2.1 - (1 : Int32)), .int m_h.2.2.2, g20, g21, g22, g23, g24, g25, g26, g27, g28])), (a1, .inl (cB29, 26, .inl v38_m_v)), (a2, .inl (cB30, 416, .inl m_h.1)), (a3, .inl (cB31, 78, .inl m_h.2.1))]) → va_S A s.heap H locs → lv_has ls 2 [(1, .int v38_l1), (0, .ref a0)] → W p l e (headSpec vfX12_undo { frames := 2, cells := 0, slots := 0, locals := 42 }).room s m ([.ref a0]).toArray below meth c H locs 0 0 QQ (F0 m 38 ls []) := by
      intro n38
      induction n38 with
      | zero =>
        intro v38_l1 v38_m_v H locs ls h  _ _ _ _
        rw [f_X12_undo_L38] at h
        cases h
      | succ n38 ih38 =>
        intro v38_l1 v38_m_v H locs ls h  hP hD hS hl
        rw [f_X12_undo_L38] at h
        refine lv_iload_n hx hb dX12_undo_38 rfl (lv_at hl 0 rfl) ?_
        refine lv_bipush (v := 26) hx hb dX12_undo_39 (by decide) ?_
        refine lv_icmp_ge (tgt := 70) hx hb dX12_undo_41 (by decide) (fun c41 => ?_) (fun c41 => ?_)
        · have h := (if_pos c41).symm.trans h
          refine lv_aload_n hx hb dX12_undo_70 rfl (lv_at hl 1 rfl) ?_
          obtain ⟨o71, eo71⟩ : ∃ o, o = f_X12_granted ((0 : Int32), m_t.2) := ⟨_, rfl⟩
          have h := nm_of h o71 eo71
          refine cl_i (wc := ([(a0, .inr (9, [.int 0, .int m_t.2.1, .int m_t.2.2, .ref a7, g8, g9, g10, g11, g12, g13, g14, g15, g16, g17, g18, .ref a1, g19, .ref a2, .ref a3, .int (m_h.2.2.1 - (1 : Int32)), .int m_h.2.2.2, g20, g21, g22, g23, g24, g25, g26, g27, g28]))])) (wr := ([(a1, .inl (cB29, 26, .inl v38_m_v)), (a2, .inl (cB30, 416, .inl m_h.1)), (a3, .inl (cB31, 78, .inl m_h.2.1))])) (va_runV (As := []) (rest := []) ⟨hx, hb, hml, hown, hts⟩ (kfX12_granted l dC dI a0 ((0 : Int32), m_t.2) (.ref a7) (g8) (g9) (g10) (g11) (g12) (g13) (g14) (g15) (g16) (g17) (g18) (.ref a1) (g19) (.ref a2) (.ref a3) (.int (m_h.2.2.1 - (1 : Int32))) (.int m_h.2.2.2) (g20) (g21) (g22) (g23) (g24) (g25) (g26) (g27) (g28) H.size o71 eo71.symm) (cwV 0 hts gfX12_undo_0 rfl rfl rfl (by decide +kernel) ⟨(Nat.le_of_ble_eq_true rfl), (Nat.le_of_ble_eq_true rfl)⟩) (PV (hP.sub (ws' := ([(a0, .inr (9, [.int 0, .int m_t.2.1, .int m_t.2.2, .ref a7, g8, g9, g10, g11, g12, g13, g14, g15, g16, g17, g18, .ref a1, g19, .ref a2, .ref a3, .int (m_h.2.2.1 - (1 : Int32)), .int m_h.2.2.2, g20, g21, g22, g23, g24, g25, g26, g27, g28]))])) [0] rfl) (hK.sub (tys' := ([])) [] rfl) (hD.sub (ws' := ([(a0, .inr (9, [.int 0, .int m_t.2.1, .int m_t.2.2, .ref a7, g8, g9, g10, g11, g12, g13, g14, g15, g16, g17, g18, .ref a1, g19, .ref a2, .ref a3, .int (m_h.2.2.1 - (1 : Int32)), .int m_h.2.2.2, g20, g21, g22, g23, g24, g25, g26, g27, g28]))])) [0] (by decide) rfl) hN 0 rfl rfl) rfl rfl hl.1 rfl (lv_room (Nat.le_of_ble_eq_true rfl)) dX12_undo_71 ⟨(Nat.le_of_ble_eq_true rfl), (Nat.le_of_ble_eq_true rfl)⟩) hP hD hK hS hA [0] [1, 2, 3] rfl rfl (by decide) (by decide) (fun r71 _ H locs hw hP hD _ hS => ?_)
          obtain ⟨hw, br71⟩ := hw
          obtain rfl := hw
          have hP : va_P (dC, dI) vwCl ([(a1, .inl (cB29, 26, .inl v38_m_v)), (a2, .inl (cB30, 416, .inl m_h.1)), (a3, .inl (cB31, 78, .inl m_h.2.1)), (a0, .inr (9, [.int o71.1, .int o71.2.1, .int o71.2.2, .ref a7, g8, g9, g10, g11, g12, g13, g14, g15, g16, g17, g18, .ref a1, g19, .ref a2, .ref a3, .int (m_h.2.2.1 - (1 : Int32)), .int m_h.2.2.2, g20, g21, g22, g23, g24, g25, g26, g27, g28]))]) H := hP
          have hD : va_D A ([(a1, .inl (cB29, 26, .inl v38_m_v)), (a2, .inl (cB30, 416, .inl m_h.1)), (a3, .inl (cB31, 78, .inl m_h.2.1)), (a0, .inr (9, [.int o71.1, .int o71.2.1, .int o71.2.2, .ref a7, g8, g9, g10, g11, g12, g13, g14, g15, g16, g17, g18, .ref a1, g19, .ref a2, .ref a3, .int (m_h.2.2.1 - (1 : Int32)), .int m_h.2.2.2, g20, g21, g22, g23, g24, g25, g26, g27, g28]))]) := hD
          obtain rfl := Option.some.inj h
          have hP9 := hP.sub (ws' := ([(a0, .inr (9, [.int o71.1, .int o71.2.1, .int o71.2.2, .ref a7, g8, g9, g10, g11, g12, g13, g14, g15, g16, g17, g18, .ref a1, g19, .ref a2, .ref a3, .int (m_h.2.2.1 - (1 : Int32)), .int m_h.2.2.2, g20, g21, g22, g23, g24, g25, g26, g27, g28])), (a1, .inl (cB29, 26, .inl v38_m_v)), (a2, .inl (cB30, 416, .inl m_h.1)), (a3, .inl (cB31, 78, .inl m_h.2.1))])) [3, 0, 1, 2] rfl
          have hD9 := hD.sub (ws' := ([(a0, .inr (9, [.int o71.1, .int o71.2.1, .int o71.2.2, .ref a7, g8, g9, g10, g11, g12, g13, g14, g15, g16, g17, g18, .ref a1, g19, .ref a2, .ref a3, .int (m_h.2.2.1 - (1 : Int32)), .int m_h.2.2.2, g20, g21, g22, g23, g24, g25, g26, g27, g28])), (a1, .inl (cB29, 26, .inl v38_m_v)), (a2, .inl (cB30, 416, .inl m_h.1)), (a3, .inl (cB31, 78, .inl m_h.2.1))])) [3, 0, 1, 2] (by decide) rfl
          have hK9 := hK.sub (tys' := []) [] rfl
          rw [hQQ]
          exact W.zret (v := (1 : Int32)) hx hb hr rfl (fun t ht hW => ⟨⟨(1 : Int32), (), rfl, ⟨rfl, (by decide)⟩, by rw [ht]; exact hP9, va_K.moved hW.alike hK9, hD9⟩, hS.F ht⟩) hS.2.2 dX12_undo_74
        · have h := (if_neg c41).symm.trans h
          refine lv_aload_n hx hb dX12_undo_44 rfl (lv_at hl 1 rfl) ?_
          refine va_get (D := (dC, dI)) (ci := 9) (v := .ref a1) (C := RX12) (T := TX12) (N := 30) hx hb hts ifX12_undo_X12 hown hK hP 0 rfl rfl 15 (by decide) (hts (.fieldLink RX12 17 "HookPierModel" "v" "[I") (List.mem_of_getElem? (i := 8) rfl)) (fun _ h9 => h9) rfl dX12_undo_45 ?_
          refine lv_iload_n hx hb dX12_undo_48 rfl (lv_at hl 0 rfl) ?_
          refine lv_aload_n hx hb dX12_undo_49 rfl (lv_at hl 1 rfl) ?_
          refine va_get (D := (dC, dI)) (ci := 9) (v := .ref a2) (C := RX12) (T := TX12) (N := 30) hx hb hts ifX12_undo_X12 hown hK hP 0 rfl rfl 17 (by decide) (hts (.fieldLink RX12 24 "HookPierModel" "past" "[I") (List.mem_of_getElem? (i := 9) rfl)) (fun _ h9 => h9) rfl dX12_undo_50 ?_
          refine lv_bipush (v := 26) hx hb dX12_undo_53 (by decide) ?_
          refine lv_aload_n hx hb dX12_undo_55 rfl (lv_at hl 1 rfl) ?_
          refine va_get (D := (dC, dI)) (ci := 9) (v := .int (m_h.2.2.1 - (1 : Int32))) (C := RX12) (T := TX12) (N := 30) hx hb hts ifX12_undo_X12 hown hK hP 0 rfl rfl 19 (by decide) (hts (.fieldLink RX12 301 "HookPierModel" "acts" "I") (List.mem_of_getElem? (i := 3) rfl)) (fun _ h9 => h9) rfl dX12_undo_56 ?_
          refine lv_imul hx hb dX12_undo_59 ?_
          refine lv_iload_n hx hb dX12_undo_60 rfl (lv_at hl 0 rfl) ?_
          refine lv_iadd hx hb dX12_undo_61 ?_
          obtain ⟨hg62, h⟩ := gA_of h
          refine va_iald hx hb hK hP 2 1 rfl rfl hg62 dX12_undo_62 ?_
          refine lv_topi (fun z62 ez62 => ?_)
          have h := nm_of h z62 ez62
          obtain ⟨hg63, h⟩ := gA_of h
          refine va_iast hx hb hK hP hD hS 1 0 rfl rfl hg63 dX12_undo_63 (fun H locs hP hD hS => ?_)
          have hP : va_P (dC, dI) vwCl ([(a0, .inr (9, [.int 0, .int m_t.2.1, .int m_t.2.2, .ref a7, g8, g9, g10, g11, g12, g13, g14, g15, g16, g17, g18, .ref a1, g19, .ref a2, .ref a3, .int (m_h.2.2.1 - (1 : Int32)), .int m_h.2.2.2, g20, g21, g22, g23, g24, g25, g26, g27, g28])), (a1, .inl (cB29, 26, .inl (upd v38_m_v (v38_l1).toNatClampNeg z62))), (a2, .inl (cB30, 416, .inl m_h.1)), (a3, .inl (cB31, 78, .inl m_h.2.1))]) H := hP
          have hD : va_D A ([(a0, .inr (9, [.int 0, .int m_t.2.1, .int m_t.2.2, .ref a7, g8, g9, g10, g11, g12, g13, g14, g15, g16, g17, g18, .ref a1, g19, .ref a2, .ref a3, .int (m_h.2.2.1 - (1 : Int32)), .int m_h.2.2.2, g20, g21, g22, g23, g24, g25, g26, g27, g28])), (a1, .inl (cB29, 26, .inl (upd v38_m_v (v38_l1).toNatClampNeg z62))), (a2, .inl (cB30, 416, .inl m_h.1)), (a3, .inl (cB31, 78, .inl m_h.2.1))]) := hD
          refine lv_iinc (v := (v38_l1 + (1 : Int32))) (lv' := [(1, .int (v38_l1 + (1 : Int32))), (0, .ref a0)]) hx hb dX12_undo_64 hl (k := 0) rfl rfl (by decide) rfl (fun ls hl => ?_)
          refine lv_goto (tgt := 38) hx hb dX12_undo_67 (by decide) ?_
          exact ih38 (v38_l1 + (1 : Int32)) (upd v38_m_v (v38_l1).toNatClampNeg z62) H _ ls h  hP hD hS (lv_sub hl [0, 1] rfl)
    exact L38 FU (0 : Int32) m_v H _ ls h  hP hD hS (lv_sub hl [0, 1] rfl)
  · have h := (if_pos c16).symm.trans h
    refine lv_aload_n hx hb dX12_undo_19 rfl (lv_at hl 0 rfl) ?_
    refine lv_bipush (v := 6) hx hb dX12_undo_20 (by decide) ?_
    obtain ⟨o22, eo22⟩ : ∃ o, o = f_X12_denied (6 : Int32) ((0 : Int32), m_t.2) := ⟨_, rfl⟩
    have h := nm_of h o22 eo22
    refine cl_i (wc := ([(a0, .inr (9, [.int 0, .int m_t.2.1, .int m_t.2.2, .ref a7, g8, g9, g10, g11, g12, g13, g14, g15, g16, g17, g18, .ref a1, g19, .ref a2, .ref a3, .int m_h.2.2.1, .int m_h.2.2.2, g20, g21, g22, g23, g24, g25, g26, g27, g28]))])) (wr := ([(a1, .inl (cB29, 26, .inl m_v)), (a2, .inl (cB30, 416, .inl m_h.1)), (a3, .inl (cB31, 78, .inl m_h.2.1))])) (va_runV (As := [.int 6]) (rest := []) ⟨hx, hb, hml, hown, hts⟩ (kfX12_denied l dC dI a0 (6 : Int32) ((0 : Int32), m_t.2) (.ref a7) (g8) (g9) (g10) (g11) (g12) (g13) (g14) (g15) (g16) (g17) (g18) (.ref a1) (g19) (.ref a2) (.ref a3) (.int m_h.2.2.1) (.int m_h.2.2.2) (g20) (g21) (g22) (g23) (g24) (g25) (g26) (g27) (g28) H.size o22 eo22.symm) (cwV 1 hts gfX12_undo_1 rfl rfl rfl (by decide +kernel) ⟨(Nat.le_of_ble_eq_true rfl), (Nat.le_of_ble_eq_true rfl)⟩) (PV (hP.sub (ws' := ([(a0, .inr (9, [.int 0, .int m_t.2.1, .int m_t.2.2, .ref a7, g8, g9, g10, g11, g12, g13, g14, g15, g16, g17, g18, .ref a1, g19, .ref a2, .ref a3, .int m_h.2.2.1, .int m_h.2.2.2, g20, g21, g22, g23, g24, g25, g26, g27, g28]))])) [0] rfl) (hK.sub (tys' := ([])) [] rfl) (hD.sub (ws' := ([(a0, .inr (9, [.int 0, .int m_t.2.1, .int m_t.2.2, .ref a7, g8, g9, g10, g11, g12, g13, g14, g15, g16, g17, g18, .ref a1, g19, .ref a2, .ref a3, .int m_h.2.2.1, .int m_h.2.2.2, g20, g21, g22, g23, g24, g25, g26, g27, g28]))])) [0] (by decide) rfl) hN 0 rfl rfl) rfl rfl hl.1 rfl (lv_room (Nat.le_of_ble_eq_true rfl)) dX12_undo_22 ⟨(Nat.le_of_ble_eq_true rfl), (Nat.le_of_ble_eq_true rfl)⟩) hP hD hK hS hA [0] [1, 2, 3] rfl rfl (by decide) (by decide) (fun r22 _ H locs hw hP hD _ hS => ?_)
    obtain ⟨hw, br22⟩ := hw
    obtain rfl := hw
    have hP : va_P (dC, dI) vwCl ([(a1, .inl (cB29, 26, .inl m_v)), (a2, .inl (cB30, 416, .inl m_h.1)), (a3, .inl (cB31, 78, .inl m_h.2.1)), (a0, .inr (9, [.int o22.1, .int o22.2.1, .int o22.2.2, .ref a7, g8, g9, g10, g11, g12, g13, g14, g15, g16, g17, g18, .ref a1, g19, .ref a2, .ref a3, .int m_h.2.2.1, .int m_h.2.2.2, g20, g21, g22, g23, g24, g25, g26, g27, g28]))]) H := hP
    have hD : va_D A ([(a1, .inl (cB29, 26, .inl m_v)), (a2, .inl (cB30, 416, .inl m_h.1)), (a3, .inl (cB31, 78, .inl m_h.2.1)), (a0, .inr (9, [.int o22.1, .int o22.2.1, .int o22.2.2, .ref a7, g8, g9, g10, g11, g12, g13, g14, g15, g16, g17, g18, .ref a1, g19, .ref a2, .ref a3, .int m_h.2.2.1, .int m_h.2.2.2, g20, g21, g22, g23, g24, g25, g26, g27, g28]))]) := hD
    obtain rfl := Option.some.inj h
    have hP9 := hP.sub (ws' := ([(a0, .inr (9, [.int o22.1, .int o22.2.1, .int o22.2.2, .ref a7, g8, g9, g10, g11, g12, g13, g14, g15, g16, g17, g18, .ref a1, g19, .ref a2, .ref a3, .int m_h.2.2.1, .int m_h.2.2.2, g20, g21, g22, g23, g24, g25, g26, g27, g28])), (a1, .inl (cB29, 26, .inl m_v)), (a2, .inl (cB30, 416, .inl m_h.1)), (a3, .inl (cB31, 78, .inl m_h.2.1))])) [3, 0, 1, 2] rfl
    have hD9 := hD.sub (ws' := ([(a0, .inr (9, [.int o22.1, .int o22.2.1, .int o22.2.2, .ref a7, g8, g9, g10, g11, g12, g13, g14, g15, g16, g17, g18, .ref a1, g19, .ref a2, .ref a3, .int m_h.2.2.1, .int m_h.2.2.2, g20, g21, g22, g23, g24, g25, g26, g27, g28])), (a1, .inl (cB29, 26, .inl m_v)), (a2, .inl (cB30, 416, .inl m_h.1)), (a3, .inl (cB31, 78, .inl m_h.2.1))])) [3, 0, 1, 2] (by decide) rfl
    have hK9 := hK.sub (tys' := []) [] rfl
    rw [hQQ]
    exact W.zret (v := (0 : Int32)) hx hb hr rfl (fun t ht hW => ⟨⟨(0 : Int32), (), rfl, ⟨rfl, (by decide)⟩, by rw [ht]; exact hP9, va_K.moved hW.alike hK9, hD9⟩, hS.F ht⟩) hS.2.2 dX12_undo_25
theorem dX12_mark_0 : decode cX12_mark 0 = .ok (.aload_n 0, 1) := by decide +kernel
theorem dX12_mark_1 : decode cX12_mark 1 = .ok (.iconst 0, 1) := by decide +kernel
theorem dX12_mark_18 : decode cX12_mark 18 = .ok (.aload_n 0, 1) := by decide +kernel
theorem dX12_mark_19 : decode cX12_mark 19 = .ok (.getfield 304, 3) := by decide +kernel
theorem dX12_mark_2 : decode cX12_mark 2 = .ok (.putfield 36, 3) := by decide +kernel
theorem dX12_mark_22 : decode cX12_mark 22 = .ok (.iconst 3, 1) := by decide +kernel
theorem dX12_mark_23 : decode cX12_mark 23 = .ok (.if_icmp .ne 9, 3) := by decide +kernel
theorem dX12_mark_26 : decode cX12_mark 26 = .ok (.aload_n 0, 1) := by decide +kernel
theorem dX12_mark_27 : decode cX12_mark 27 = .ok (.iconst 3, 1) := by decide +kernel
theorem dX12_mark_28 : decode cX12_mark 28 = .ok (.invokevirtual 42, 3) := by decide +kernel
theorem dX12_mark_31 : decode cX12_mark 31 = .ok (.ireturn, 1) := by decide +kernel
theorem dX12_mark_32 : decode cX12_mark 32 = .ok (.iconst 0, 1) := by decide +kernel
theorem dX12_mark_33 : decode cX12_mark 33 = .ok (.istore_n 1, 1) := by decide +kernel
theorem dX12_mark_34 : decode cX12_mark 34 = .ok (.iload_n 1, 1) := by decide +kernel
theorem dX12_mark_35 : decode cX12_mark 35 = .ok (.bipush 26, 2) := by decide +kernel
theorem dX12_mark_37 : decode cX12_mark 37 = .ok (.if_icmp .ge 29, 3) := by decide +kernel
theorem dX12_mark_40 : decode cX12_mark 40 = .ok (.aload_n 0, 1) := by decide +kernel
theorem dX12_mark_41 : decode cX12_mark 41 = .ok (.getfield 27, 3) := by decide +kernel
theorem dX12_mark_44 : decode cX12_mark 44 = .ok (.bipush 26, 2) := by decide +kernel
theorem dX12_mark_46 : decode cX12_mark 46 = .ok (.aload_n 0, 1) := by decide +kernel
theorem dX12_mark_47 : decode cX12_mark 47 = .ok (.getfield 304, 3) := by decide +kernel
theorem dX12_mark_5 : decode cX12_mark 5 = .ok (.aload_n 0, 1) := by decide +kernel
theorem dX12_mark_50 : decode cX12_mark 50 = .ok (.imul, 1) := by decide +kernel
theorem dX12_mark_51 : decode cX12_mark 51 = .ok (.iload_n 1, 1) := by decide +kernel
theorem dX12_mark_52 : decode cX12_mark 52 = .ok (.iadd, 1) := by decide +kernel
theorem dX12_mark_53 : decode cX12_mark 53 = .ok (.aload_n 0, 1) := by decide +kernel
theorem dX12_mark_54 : decode cX12_mark 54 = .ok (.getfield 17, 3) := by decide +kernel
theorem dX12_mark_57 : decode cX12_mark 57 = .ok (.iload_n 1, 1) := by decide +kernel
theorem dX12_mark_58 : decode cX12_mark 58 = .ok (.iaload, 1) := by decide +kernel
theorem dX12_mark_59 : decode cX12_mark 59 = .ok (.iastore, 1) := by decide +kernel
theorem dX12_mark_6 : decode cX12_mark 6 = .ok (.getfield 299, 3) := by decide +kernel
theorem dX12_mark_60 : decode cX12_mark 60 = .ok (.iinc 1 1, 3) := by decide +kernel
theorem dX12_mark_63 : decode cX12_mark 63 = .ok (.goto (-29), 3) := by decide +kernel
theorem dX12_mark_66 : decode cX12_mark 66 = .ok (.aload_n 0, 1) := by decide +kernel
theorem dX12_mark_67 : decode cX12_mark 67 = .ok (.dup, 1) := by decide +kernel
theorem dX12_mark_68 : decode cX12_mark 68 = .ok (.getfield 304, 3) := by decide +kernel
theorem dX12_mark_71 : decode cX12_mark 71 = .ok (.iconst 1, 1) := by decide +kernel
theorem dX12_mark_72 : decode cX12_mark 72 = .ok (.iadd, 1) := by decide +kernel
theorem dX12_mark_73 : decode cX12_mark 73 = .ok (.putfield 304, 3) := by decide +kernel
theorem dX12_mark_76 : decode cX12_mark 76 = .ok (.aload_n 0, 1) := by decide +kernel
theorem dX12_mark_77 : decode cX12_mark 77 = .ok (.aload_n 0, 1) := by decide +kernel
theorem dX12_mark_78 : decode cX12_mark 78 = .ok (.getfield 304, 3) := by decide +kernel
theorem dX12_mark_81 : decode cX12_mark 81 = .ok (.iconst 1, 1) := by decide +kernel
theorem dX12_mark_82 : decode cX12_mark 82 = .ok (.isub, 1) := by decide +kernel
theorem dX12_mark_83 : decode cX12_mark 83 = .ok (.invokevirtual 46, 3) := by decide +kernel
theorem dX12_mark_86 : decode cX12_mark 86 = .ok (.ireturn, 1) := by decide +kernel
theorem dX12_mark_9 : decode cX12_mark 9 = .ok (.ifnonnull 9, 3) := by decide +kernel
def vfX12_mark : List Cond := List.cons (.code yX12_mark cX12_mark 2 (some .int)) (apW [.fieldLink RX12 36 "HookPierModel" "thrown" "I", .fieldLink RX12 299 "HookPierModel" "pier" "LHookPierModel$Pier;", .fieldLink RX12 304 "HookPierModel" "marks" "I", .methodLink RX12 46 yX12_good, .instanceMethod yX12_good, .selects RX12 yX12_good yX12_good, .initialized RX12, .fieldLink RX12 27 "HookPierModel" "kept" "[I", .fieldLink RX12 17 "HookPierModel" "v" "[I", .methodLink RX12 42 yX12_refused, .instanceMethod yX12_refused, .selects RX12 yX12_refused yX12_refused] (apW wsX120 (apW vfX12_good (vfX12_refused))))
theorem ifX12_mark_X12 : ∀ w ∈ wsX120, w ∈ vfX12_mark := fun _ h => (List.mem_cons_of_mem _ (List.mem_append_right _ (List.mem_append_left _ h)))
theorem qfX12_mark : Good vfX12_mark := gd_cons (by decide +kernel) (gd_app (gd_dec (by decide +kernel) : Good [.fieldLink RX12 36 "HookPierModel" "thrown" "I", .fieldLink RX12 299 "HookPierModel" "pier" "LHookPierModel$Pier;", .fieldLink RX12 304 "HookPierModel" "marks" "I", .methodLink RX12 46 yX12_good, .instanceMethod yX12_good, .selects RX12 yX12_good yX12_good, .initialized RX12, .fieldLink RX12 27 "HookPierModel" "kept" "[I", .fieldLink RX12 17 "HookPierModel" "v" "[I", .methodLink RX12 42 yX12_refused, .instanceMethod yX12_refused, .selects RX12 yX12_refused yX12_refused]) (gd_app qsX12 (gd_app qfX12_good qfX12_refused)))
theorem gfX12_mark_0 : GoodIn vfX12_mark (wsV RX12 46 RX12 yX12_good vfX12_good) := goodIn_app (goodIn_r [.methodLink RX12 46 yX12_good, .instanceMethod yX12_good, .selects RX12 yX12_good yX12_good, .initialized RX12] [4, 5, 6, 7] rfl (by decide +kernel)) (goodIn_m (fun _ h => (List.mem_cons_of_mem _ (List.mem_append_right _ (List.mem_append_right _ (List.mem_append_left _ h))))) qfX12_good)
theorem gfX12_mark_1 : GoodIn vfX12_mark (wsV RX12 42 RX12 yX12_refused vfX12_refused) := goodIn_app (goodIn_r [.methodLink RX12 42 yX12_refused, .instanceMethod yX12_refused, .selects RX12 yX12_refused yX12_refused, .initialized RX12] [10, 11, 12, 7] rfl (by decide +kernel)) (goodIn_m (fun _ h => (List.mem_cons_of_mem _ (List.mem_append_right _ (List.mem_append_right _ (List.mem_append_right _ h))))) qfX12_refused)
set_option maxHeartbeats 2000000 in
set_option maxRecDepth 100000 in
theorem kfX12_mark (l : Launch) (dC : Nat → ClassId) (dI : Nat → Nat → Nat) (a0 : Nat) (a1 : Nat) (a2 : Nat) (a3 : Nat) (m_t : TX12_t) (m_v : TX12_v) (m_h : TX12_h) (a7 : Nat) (g8 : Value) (g9 : Value) (g10 : Value) (g11 : Value) (g12 : Value) (g13 : Value) (g14 : Value) (g15 : Value) (g16 : Value) (g17 : Value) (g18 : Value) (g19 : Value) (g20 : Value) (g21 : Value) (g22 : Value) (g23 : Value) (g24 : Value) (g25 : Value) (g26 : Value) (g27 : Value) (g28 : Value) (cB29 : ClassId) (cB30 : ClassId) (cB31 : ClassId) (sz : Nat) (out : (Int32 × TX12_t × TX12_h)) (h : f_X12_mark m_t m_v m_h = some out) : Met l yX12_mark vfX12_mark ({ frames := 1, cells := 0, slots := 0, locals := 21 }) (PC (dC, dI) [.ref a0] sz ([(a0, .inr (9, [.int m_t.1, .int m_t.2.1, .int m_t.2.2, .ref a7, g8, g9, g10, g11, g12, g13, g14, g15, g16, g17, g18, .ref a1, g19, .ref a2, .ref a3, .int m_h.2.2.1, .int m_h.2.2.2, g20, g21, g22, g23, g24, g25, g26, g27, g28])), (a1, .inl (cB29, 26, .inl m_v)), (a2, .inl (cB30, 416, .inl m_h.1)), (a3, .inl (cB31, 78, .inl m_h.2.1))]) ((cB29, .int) :: (cB30, .int) :: (cB31, .int) :: [])) (va_Qi (S := Unit) (fun (r : Int32) _ => r = out.1) (fun _ t => BC (dC, dI) (va_A ([(a0, .inr (9, [.int m_t.1, .int m_t.2.1, .int m_t.2.2, .ref a7, g8, g9, g10, g11, g12, g13, g14, g15, g16, g17, g18, .ref a1, g19, .ref a2, .ref a3, .int m_h.2.2.1, .int m_h.2.2.2, g20, g21, g22, g23, g24, g25, g26, g27, g28])), (a1, .inl (cB29, 26, .inl m_v)), (a2, .inl (cB30, 416, .inl m_h.1)), (a3, .inl (cB31, 78, .inl m_h.2.1))]) sz) ([(a0, .inr (9, [.int out.2.1.1, .int out.2.1.2.1, .int out.2.1.2.2, .ref a7, g8, g9, g10, g11, g12, g13, g14, g15, g16, g17, g18, .ref a1, g19, .ref a2, .ref a3, .int out.2.2.2.2.1, .int out.2.2.2.2.2, g20, g21, g22, g23, g24, g25, g26, g27, g28])), (a1, .inl (cB29, 26, .inl m_v)), (a2, .inl (cB30, 416, .inl out.2.2.1)), (a3, .inl (cB31, 78, .inl out.2.2.2.1))]) [] t) (va_A ([(a0, .inr (9, [.int m_t.1, .int m_t.2.1, .int m_t.2.2, .ref a7, g8, g9, g10, g11, g12, g13, g14, g15, g16, g17, g18, .ref a1, g19, .ref a2, .ref a3, .int m_h.2.2.1, .int m_h.2.2.2, g20, g21, g22, g23, g24, g25, g26, g27, g28])), (a1, .inl (cB29, 26, .inl m_v)), (a2, .inl (cB30, 416, .inl m_h.1)), (a3, .inl (cB31, 78, .inl m_h.2.1))]) sz)) 0 0 (va_A ([(a0, .inr (9, [.int m_t.1, .int m_t.2.1, .int m_t.2.2, .ref a7, g8, g9, g10, g11, g12, g13, g14, g15, g16, g17, g18, .ref a1, g19, .ref a2, .ref a3, .int m_h.2.2.1, .int m_h.2.2.2, g20, g21, g22, g23, g24, g25, g26, g27, g28])), (a1, .inl (cB29, 26, .inl m_v)), (a2, .inl (cB30, 416, .inl m_h.1)), (a3, .inl (cB31, 78, .inl m_h.2.1))]) sz) := by
  refine Met.ofW (cc := cX12_mark) (maxL := 2) (ret := (some .int)) (by decide) rfl ?_
  intro p e s m args below meth c s₁ B0 hml hv
  obtain ⟨rfl, hsz, hP, hK, hD0, hN⟩ := hv
  have hx := B0.exec
  have hb := B0.bytes
  have hr := B0.returns
  have hts := atoms_spec (ws := vfX12_mark) B0.pre
  have hown : s.vm.findClass RX12 = some m.cls := findClass_of_methodNamed B0.named
  have hlocks := B0.notSynchronized
  subst hsz
  have hD := hD0.self (sz := s.heap.size)
  generalize hAe : va_A ([(a0, .inr (9, [.int m_t.1, .int m_t.2.1, .int m_t.2.2, .ref a7, g8, g9, g10, g11, g12, g13, g14, g15, g16, g17, g18, .ref a1, g19, .ref a2, .ref a3, .int m_h.2.2.1, .int m_h.2.2.2, g20, g21, g22, g23, g24, g25, g26, g27, g28])), (a1, .inl (cB29, 26, .inl m_v)), (a2, .inl (cB30, 416, .inl m_h.1)), (a3, .inl (cB31, 78, .inl m_h.2.1))]) s.heap.size = A at hD ⊢
  have hA : ∀ q : Nat, s.heap.size ≤ q → A q := fun q h => by rw [← hAe]; exact Or.inr h
  have hS : va_S A s.heap s.heap [] := va_S.rf
  have hP : va_P (dC, dI) vwCl ([(a0, .inr (9, [.int m_t.1, .int m_t.2.1, .int m_t.2.2, .ref a7, g8, g9, g10, g11, g12, g13, g14, g15, g16, g17, g18, .ref a1, g19, .ref a2, .ref a3, .int m_h.2.2.1, .int m_h.2.2.2, g20, g21, g22, g23, g24, g25, g26, g27, g28])), (a1, .inl (cB29, 26, .inl m_v)), (a2, .inl (cB30, 416, .inl m_h.1)), (a3, .inl (cB31, 78, .inl m_h.2.1))]) s.heap := hP
  have hl := lv_entry ([.ref a0]) (n := 2) (Nat.le_of_ble_eq_true rfl)
  rw [lg_entry_eq]
  generalize (lg_sl ([.ref a0]) ++ List.replicate (2 - (lg_sl ([.ref a0])).length) Slot.unset).toArray = ls at hl ⊢
  have hl : lv_has ls 2 [(0, .ref a0)] := hl
  refine W_q (fun QQ hQQ => ?_)
  rw [f_X12_mark] at h
  refine lv_aload_n hx hb dX12_mark_0 rfl (lv_at hl 0 rfl) ?_
  refine lv_iconst (v := 0) hx hb dX12_mark_1 (by decide) ?_
  refine va_put (D := (dC, dI)) (ci := 9) (v := .int 0) (ty := .int) (C := RX12) (T := TX12) (N := 30) hx hb hts ifX12_mark_X12 tyX12 tyX12_ok nmX12 hown hK hP hD hS 0 rfl rfl 0 (by decide) (hts (.fieldLink RX12 36 "HookPierModel" "thrown" "I") (List.mem_of_getElem? (i := 1) rfl)) (fun _ h9 => h9) rfl (by decide +kernel) rfl rfl (Nat.le_of_ble_eq_true rfl) dX12_mark_2 (fun H locs hP hD hS => ?_)
  have hP : va_P (dC, dI) vwCl ([(a0, .inr (9, [.int 0, .int m_t.2.1, .int m_t.2.2, .ref a7, g8, g9, g10, g11, g12, g13, g14, g15, g16, g17, g18, .ref a1, g19, .ref a2, .ref a3, .int m_h.2.2.1, .int m_h.2.2.2, g20, g21, g22, g23, g24, g25, g26, g27, g28])), (a1, .inl (cB29, 26, .inl m_v)), (a2, .inl (cB30, 416, .inl m_h.1)), (a3, .inl (cB31, 78, .inl m_h.2.1))]) H := hP
  have hD : va_D A ([(a0, .inr (9, [.int 0, .int m_t.2.1, .int m_t.2.2, .ref a7, g8, g9, g10, g11, g12, g13, g14, g15, g16, g17, g18, .ref a1, g19, .ref a2, .ref a3, .int m_h.2.2.1, .int m_h.2.2.2, g20, g21, g22, g23, g24, g25, g26, g27, g28])), (a1, .inl (cB29, 26, .inl m_v)), (a2, .inl (cB30, 416, .inl m_h.1)), (a3, .inl (cB31, 78, .inl m_h.2.1))]) := hD
  refine lv_aload_n hx hb dX12_mark_5 rfl (lv_at hl 0 rfl) ?_
  refine va_get (D := (dC, dI)) (ci := 9) (v := .ref a7) (C := RX12) (T := TX12) (N := 30) hx hb hts ifX12_mark_X12 hown hK hP 0 rfl rfl 3 (by decide) (hts (.fieldLink RX12 299 "HookPierModel" "pier" "LHookPierModel$Pier;") (List.mem_of_getElem? (i := 2) rfl)) (fun _ h9 => h9) rfl dX12_mark_6 ?_
  refine lv_ifnonnull (tgt := 18) hx hb dX12_mark_9 (by decide) ?_
  refine lv_aload_n hx hb dX12_mark_18 rfl (lv_at hl 0 rfl) ?_
  refine va_get (D := (dC, dI)) (ci := 9) (v := .int m_h.2.2.2) (C := RX12) (T := TX12) (N := 30) hx hb hts ifX12_mark_X12 hown hK hP 0 rfl rfl 20 (by decide) (hts (.fieldLink RX12 304 "HookPierModel" "marks" "I") (List.mem_of_getElem? (i := 3) rfl)) (fun _ h9 => h9) rfl dX12_mark_19 ?_
  refine lv_iconst (v := 3) hx hb dX12_mark_22 (by decide) ?_
  refine lv_icmp_ne (tgt := 32) hx hb dX12_mark_23 (by decide) (fun c23 => ?_) (fun c23 => ?_)
  · have h := (if_neg c23).symm.trans h
    refine lv_iconst (v := 0) hx hb dX12_mark_32 (by decide) ?_
    refine lv_istore_n (lv' := [(1, .int 0), (0, .ref a0)]) hx hb dX12_mark_33 rfl hl (by decide) rfl (fun ls hl => ?_)
    have L34 : ∀ (n34 : Nat) (v34_l1 : Int32) (v34_m_h : TX12_h) (H : Heap) (locs : List Loc) (ls : Array Slot), f_X12_mark_L34 m_t m_v n34 v34_l1 v34_m_h = some out → va_P (dC, dI) vwCl ([(a0, .inr (9, [.int 0, .int m_t.2.1, .int m_t.2.2, .ref a7, g8, g9, g10, g11, g12, g13, g14, g15, g16, g17, g18, .ref a1, g19, .ref a2, .ref a3, .int v34_m_h.2.2.1, .int v34_m_h.2.2.2, g20, g21, g22, g23, g24, g25, g26, g27, g28])), (a1, .inl (cB29, 26, .inl m_v)), (a2, .inl (cB30, 416, .inl v34_m_h.1)), (a3, .inl (cB31, 78, .inl v34_m_h.2.1))]) H → va_D A ([(a0, .inr (9, [.int 0, .int m_t.2.1, .int m_t.2.2, .ref a7, g8, g9, g10, g11, g12, g13, g14, g15, g16, g17, g18, .ref a1, g19, .ref a2, .ref a3, .int v34_m_h.2.2.1, .int v34_m_h.2.2.2, g20, g21, g22, g23, g24, g25, g26, g27, g28])), (a1, .inl (cB29, 26, .inl m_v)), (a2, .inl (cB30, 416, .inl v34_m_h.1)), (a3, .inl (cB31, 78, .inl v34_m_h.2.1))]) → va_S A s.heap H locs → lv_has ls 2 [(1, .int v34_l1), (0, .ref a0)] → W p l e (headSpec vfX12_mark { frames := 1, cells := 0, slots := 0, locals := 21 }).room s m ([.ref a0]).toArray below meth c H locs 0 0 QQ (F0 m 34 ls []) := by
      intro n34
      induction n34 with
      | zero =>
        intro v34_l1 v34_m_h H locs ls h  _ _ _ _
        rw [f_X12_mark_L34] at h
        cases h
      | succ n34 ih34 =>
        intro v34_l1 v34_m_h H locs ls h  hP hD hS hl
        rw [f_X12_mark_L34] at h
        refine lv_iload_n hx hb dX12_mark_34 rfl (lv_at hl 0 rfl) ?_
        refine lv_bipush (v := 26) hx hb dX12_mark_35 (by decide) ?_
        refine lv_icmp_ge (tgt := 66) hx hb dX12_mark_37 (by decide) (fun c37 => ?_) (fun c37 => ?_)
        · have h := (if_pos c37).symm.trans h
          refine lv_aload_n hx hb dX12_mark_66 rfl (lv_at hl 1 rfl) ?_
          refine lv_dup hx hb dX12_mark_67 rfl ?_
          refine va_get (D := (dC, dI)) (ci := 9) (v := .int v34_m_h.2.2.2) (C := RX12) (T := TX12) (N := 30) hx hb hts ifX12_mark_X12 hown hK hP 0 rfl rfl 20 (by decide) (hts (.fieldLink RX12 304 "HookPierModel" "marks" "I") (List.mem_of_getElem? (i := 3) rfl)) (fun _ h9 => h9) rfl dX12_mark_68 ?_
          refine lv_iconst (v := 1) hx hb dX12_mark_71 (by decide) ?_
          refine lv_iadd hx hb dX12_mark_72 ?_
          refine va_put (D := (dC, dI)) (ci := 9) (v := .int (v34_m_h.2.2.2 + (1 : Int32))) (ty := .int) (C := RX12) (T := TX12) (N := 30) hx hb hts ifX12_mark_X12 tyX12 tyX12_ok nmX12 hown hK hP hD hS 0 rfl rfl 20 (by decide) (hts (.fieldLink RX12 304 "HookPierModel" "marks" "I") (List.mem_of_getElem? (i := 3) rfl)) (fun _ h9 => h9) rfl (by decide +kernel) rfl rfl (Nat.le_of_ble_eq_true rfl) dX12_mark_73 (fun H locs hP hD hS => ?_)
          have hP : va_P (dC, dI) vwCl ([(a0, .inr (9, [.int 0, .int m_t.2.1, .int m_t.2.2, .ref a7, g8, g9, g10, g11, g12, g13, g14, g15, g16, g17, g18, .ref a1, g19, .ref a2, .ref a3, .int v34_m_h.2.2.1, .int (v34_m_h.2.2.2 + (1 : Int32)), g20, g21, g22, g23, g24, g25, g26, g27, g28])), (a1, .inl (cB29, 26, .inl m_v)), (a2, .inl (cB30, 416, .inl v34_m_h.1)), (a3, .inl (cB31, 78, .inl v34_m_h.2.1))]) H := hP
          have hD : va_D A ([(a0, .inr (9, [.int 0, .int m_t.2.1, .int m_t.2.2, .ref a7, g8, g9, g10, g11, g12, g13, g14, g15, g16, g17, g18, .ref a1, g19, .ref a2, .ref a3, .int v34_m_h.2.2.1, .int (v34_m_h.2.2.2 + (1 : Int32)), g20, g21, g22, g23, g24, g25, g26, g27, g28])), (a1, .inl (cB29, 26, .inl m_v)), (a2, .inl (cB30, 416, .inl v34_m_h.1)), (a3, .inl (cB31, 78, .inl v34_m_h.2.1))]) := hD
          refine lv_aload_n hx hb dX12_mark_76 rfl (lv_at hl 1 rfl) ?_
          refine lv_aload_n hx hb dX12_mark_77 rfl (lv_at hl 1 rfl) ?_
          refine va_get (D := (dC, dI)) (ci := 9) (v := .int (v34_m_h.2.2.2 + (1 : Int32))) (C := RX12) (T := TX12) (N := 30) hx hb hts ifX12_mark_X12 hown hK hP 0 rfl rfl 20 (by decide) (hts (.fieldLink RX12 304 "HookPierModel" "marks" "I") (List.mem_of_getElem? (i := 3) rfl)) (fun _ h9 => h9) rfl dX12_mark_78 ?_
          refine lv_iconst (v := 1) hx hb dX12_mark_81 (by decide) ?_
          refine lv_isub hx hb dX12_mark_82 ?_
          obtain ⟨o83, eo83⟩ : ∃ o, o = f_X12_good ((v34_m_h.2.2.2 + (1 : Int32)) - (1 : Int32)) ((0 : Int32), m_t.2) := ⟨_, rfl⟩
          have h := nm_of h o83 eo83
          refine cl_i (wc := ([(a0, .inr (9, [.int 0, .int m_t.2.1, .int m_t.2.2, .ref a7, g8, g9, g10, g11, g12, g13, g14, g15, g16, g17, g18, .ref a1, g19, .ref a2, .ref a3, .int v34_m_h.2.2.1, .int (v34_m_h.2.2.2 + (1 : Int32)), g20, g21, g22, g23, g24, g25, g26, g27, g28]))])) (wr := ([(a1, .inl (cB29, 26, .inl m_v)), (a2, .inl (cB30, 416, .inl v34_m_h.1)), (a3, .inl (cB31, 78, .inl v34_m_h.2.1))])) (va_runV (As := [.int ((v34_m_h.2.2.2 + (1 : Int32)) - (1 : Int32))]) (rest := []) ⟨hx, hb, hml, hown, hts⟩ (kfX12_good l dC dI a0 ((v34_m_h.2.2.2 + (1 : Int32)) - (1 : Int32)) ((0 : Int32), m_t.2) (.ref a7) (g8) (g9) (g10) (g11) (g12) (g13) (g14) (g15) (g16) (g17) (g18) (.ref a1) (g19) (.ref a2) (.ref a3) (.int v34_m_h.2.2.1) (.int (v34_m_h.2.2.2 + (1 : Int32))) (g20) (g21) (g22) (g23) (g24) (g25) (g26) (g27) (g28) H.size o83 eo83.symm) (cwV 1 hts gfX12_mark_0 rfl rfl rfl (by decide +kernel) ⟨(Nat.le_of_ble_eq_true rfl), (Nat.le_of_ble_eq_true rfl)⟩) (PV (hP.sub (ws' := ([(a0, .inr (9, [.int 0, .int m_t.2.1, .int m_t.2.2, .ref a7, g8, g9, g10, g11, g12, g13, g14, g15, g16, g17, g18, .ref a1, g19, .ref a2, .ref a3, .int v34_m_h.2.2.1, .int (v34_m_h.2.2.2 + (1 : Int32)), g20, g21, g22, g23, g24, g25, g26, g27, g28]))])) [0] rfl) (hK.sub (tys' := ([])) [] rfl) (hD.sub (ws' := ([(a0, .inr (9, [.int 0, .int m_t.2.1, .int m_t.2.2, .ref a7, g8, g9, g10, g11, g12, g13, g14, g15, g16, g17, g18, .ref a1, g19, .ref a2, .ref a3, .int v34_m_h.2.2.1, .int (v34_m_h.2.2.2 + (1 : Int32)), g20, g21, g22, g23, g24, g25, g26, g27, g28]))])) [0] (by decide) rfl) hN 0 rfl rfl) rfl rfl hl.1 rfl (lv_room (Nat.le_of_ble_eq_true rfl)) dX12_mark_83 ⟨(Nat.le_of_ble_eq_true rfl), (Nat.le_of_ble_eq_true rfl)⟩) hP hD hK hS hA [0] [1, 2, 3] rfl rfl (by decide) (by decide) (fun r83 _ H locs hw hP hD _ hS => ?_)
          obtain rfl := hw
          have hP : va_P (dC, dI) vwCl ([(a1, .inl (cB29, 26, .inl m_v)), (a2, .inl (cB30, 416, .inl v34_m_h.1)), (a3, .inl (cB31, 78, .inl v34_m_h.2.1)), (a0, .inr (9, [.int o83.2.1, .int o83.2.2.1, .int o83.2.2.2, .ref a7, g8, g9, g10, g11, g12, g13, g14, g15, g16, g17, g18, .ref a1, g19, .ref a2, .ref a3, .int v34_m_h.2.2.1, .int (v34_m_h.2.2.2 + (1 : Int32)), g20, g21, g22, g23, g24, g25, g26, g27, g28]))]) H := hP
          have hD : va_D A ([(a1, .inl (cB29, 26, .inl m_v)), (a2, .inl (cB30, 416, .inl v34_m_h.1)), (a3, .inl (cB31, 78, .inl v34_m_h.2.1)), (a0, .inr (9, [.int o83.2.1, .int o83.2.2.1, .int o83.2.2.2, .ref a7, g8, g9, g10, g11, g12, g13, g14, g15, g16, g17, g18, .ref a1, g19, .ref a2, .ref a3, .int v34_m_h.2.2.1, .int (v34_m_h.2.2.2 + (1 : Int32)), g20, g21, g22, g23, g24, g25, g26, g27, g28]))]) := hD
          obtain rfl := Option.some.inj h
          have hP9 := hP.sub (ws' := ([(a0, .inr (9, [.int o83.2.1, .int o83.2.2.1, .int o83.2.2.2, .ref a7, g8, g9, g10, g11, g12, g13, g14, g15, g16, g17, g18, .ref a1, g19, .ref a2, .ref a3, .int v34_m_h.2.2.1, .int (v34_m_h.2.2.2 + (1 : Int32)), g20, g21, g22, g23, g24, g25, g26, g27, g28])), (a1, .inl (cB29, 26, .inl m_v)), (a2, .inl (cB30, 416, .inl v34_m_h.1)), (a3, .inl (cB31, 78, .inl v34_m_h.2.1))])) [3, 0, 1, 2] rfl
          have hD9 := hD.sub (ws' := ([(a0, .inr (9, [.int o83.2.1, .int o83.2.2.1, .int o83.2.2.2, .ref a7, g8, g9, g10, g11, g12, g13, g14, g15, g16, g17, g18, .ref a1, g19, .ref a2, .ref a3, .int v34_m_h.2.2.1, .int (v34_m_h.2.2.2 + (1 : Int32)), g20, g21, g22, g23, g24, g25, g26, g27, g28])), (a1, .inl (cB29, 26, .inl m_v)), (a2, .inl (cB30, 416, .inl v34_m_h.1)), (a3, .inl (cB31, 78, .inl v34_m_h.2.1))])) [3, 0, 1, 2] (by decide) rfl
          have hK9 := hK.sub (tys' := []) [] rfl
          rw [hQQ]
          exact W.iret (v := o83.1) hx hb hr (fun t ht hW => ⟨⟨o83.1, (), rfl, rfl, by rw [ht]; exact hP9, va_K.moved hW.alike hK9, hD9⟩, hS.F ht⟩) hS.2.2 dX12_mark_86
        · have h := (if_neg c37).symm.trans h
          refine lv_aload_n hx hb dX12_mark_40 rfl (lv_at hl 1 rfl) ?_
          refine va_get (D := (dC, dI)) (ci := 9) (v := .ref a3) (C := RX12) (T := TX12) (N := 30) hx hb hts ifX12_mark_X12 hown hK hP 0 rfl rfl 18 (by decide) (hts (.fieldLink RX12 27 "HookPierModel" "kept" "[I") (List.mem_of_getElem? (i := 8) rfl)) (fun _ h9 => h9) rfl dX12_mark_41 ?_
          refine lv_bipush (v := 26) hx hb dX12_mark_44 (by decide) ?_
          refine lv_aload_n hx hb dX12_mark_46 rfl (lv_at hl 1 rfl) ?_
          refine va_get (D := (dC, dI)) (ci := 9) (v := .int v34_m_h.2.2.2) (C := RX12) (T := TX12) (N := 30) hx hb hts ifX12_mark_X12 hown hK hP 0 rfl rfl 20 (by decide) (hts (.fieldLink RX12 304 "HookPierModel" "marks" "I") (List.mem_of_getElem? (i := 3) rfl)) (fun _ h9 => h9) rfl dX12_mark_47 ?_
          refine lv_imul hx hb dX12_mark_50 ?_
          refine lv_iload_n hx hb dX12_mark_51 rfl (lv_at hl 0 rfl) ?_
          refine lv_iadd hx hb dX12_mark_52 ?_
          refine lv_aload_n hx hb dX12_mark_53 rfl (lv_at hl 1 rfl) ?_
          refine va_get (D := (dC, dI)) (ci := 9) (v := .ref a1) (C := RX12) (T := TX12) (N := 30) hx hb hts ifX12_mark_X12 hown hK hP 0 rfl rfl 15 (by decide) (hts (.fieldLink RX12 17 "HookPierModel" "v" "[I") (List.mem_of_getElem? (i := 9) rfl)) (fun _ h9 => h9) rfl dX12_mark_54 ?_
          refine lv_iload_n hx hb dX12_mark_57 rfl (lv_at hl 0 rfl) ?_
          obtain ⟨hg58, h⟩ := gA_of h
          refine va_iald hx hb hK hP 1 0 rfl rfl hg58 dX12_mark_58 ?_
          obtain ⟨hg59, h⟩ := gA_of h
          refine va_iast hx hb hK hP hD hS 3 2 rfl rfl hg59 dX12_mark_59 (fun H locs hP hD hS => ?_)
          have hP : va_P (dC, dI) vwCl ([(a0, .inr (9, [.int 0, .int m_t.2.1, .int m_t.2.2, .ref a7, g8, g9, g10, g11, g12, g13, g14, g15, g16, g17, g18, .ref a1, g19, .ref a2, .ref a3, .int v34_m_h.2.2.1, .int v34_m_h.2.2.2, g20, g21, g22, g23, g24, g25, g26, g27, g28])), (a1, .inl (cB29, 26, .inl m_v)), (a2, .inl (cB30, 416, .inl v34_m_h.1)), (a3, .inl (cB31, 78, .inl (upd v34_m_h.2.1 ((((26 : Int32) * v34_m_h.2.2.2) + v34_l1)).toNatClampNeg (m_v (v34_l1).toNatClampNeg))))]) H := hP
          have hD : va_D A ([(a0, .inr (9, [.int 0, .int m_t.2.1, .int m_t.2.2, .ref a7, g8, g9, g10, g11, g12, g13, g14, g15, g16, g17, g18, .ref a1, g19, .ref a2, .ref a3, .int v34_m_h.2.2.1, .int v34_m_h.2.2.2, g20, g21, g22, g23, g24, g25, g26, g27, g28])), (a1, .inl (cB29, 26, .inl m_v)), (a2, .inl (cB30, 416, .inl v34_m_h.1)), (a3, .inl (cB31, 78, .inl (upd v34_m_h.2.1 ((((26 : Int32) * v34_m_h.2.2.2) + v34_l1)).toNatClampNeg (m_v (v34_l1).toNatClampNeg))))]) := hD
          refine lv_iinc (v := (v34_l1 + (1 : Int32))) (lv' := [(1, .int (v34_l1 + (1 : Int32))), (0, .ref a0)]) hx hb dX12_mark_60 hl (k := 0) rfl rfl (by decide) rfl (fun ls hl => ?_)
          refine lv_goto (tgt := 34) hx hb dX12_mark_63 (by decide) ?_
          exact ih34 (v34_l1 + (1 : Int32)) (v34_m_h.1, (upd v34_m_h.2.1 ((((26 : Int32) * v34_m_h.2.2.2) + v34_l1)).toNatClampNeg (m_v (v34_l1).toNatClampNeg)), v34_m_h.2.2) H _ ls h  hP hD hS (lv_sub hl [0, 1] rfl)
    exact L34 FU (0 : Int32) m_h H _ ls h  hP hD hS (lv_sub hl [0, 1] rfl)
  · have h := (if_pos c23).symm.trans h
    refine lv_aload_n hx hb dX12_mark_26 rfl (lv_at hl 0 rfl) ?_
    refine lv_iconst (v := 3) hx hb dX12_mark_27 (by decide) ?_
    obtain ⟨o28, eo28⟩ : ∃ o, o = f_X12_refused (3 : Int32) ((0 : Int32), m_t.2) := ⟨_, rfl⟩
    have h := nm_of h o28 eo28
    refine cl_i (wc := ([(a0, .inr (9, [.int 0, .int m_t.2.1, .int m_t.2.2, .ref a7, g8, g9, g10, g11, g12, g13, g14, g15, g16, g17, g18, .ref a1, g19, .ref a2, .ref a3, .int m_h.2.2.1, .int m_h.2.2.2, g20, g21, g22, g23, g24, g25, g26, g27, g28]))])) (wr := ([(a1, .inl (cB29, 26, .inl m_v)), (a2, .inl (cB30, 416, .inl m_h.1)), (a3, .inl (cB31, 78, .inl m_h.2.1))])) (va_runV (As := [.int 3]) (rest := []) ⟨hx, hb, hml, hown, hts⟩ (kfX12_refused l dC dI a0 (3 : Int32) ((0 : Int32), m_t.2) (.ref a7) (g8) (g9) (g10) (g11) (g12) (g13) (g14) (g15) (g16) (g17) (g18) (.ref a1) (g19) (.ref a2) (.ref a3) (.int m_h.2.2.1) (.int m_h.2.2.2) (g20) (g21) (g22) (g23) (g24) (g25) (g26) (g27) (g28) H.size o28 eo28.symm) (cwV 1 hts gfX12_mark_1 rfl rfl rfl (by decide +kernel) ⟨(Nat.le_of_ble_eq_true rfl), (Nat.le_of_ble_eq_true rfl)⟩) (PV (hP.sub (ws' := ([(a0, .inr (9, [.int 0, .int m_t.2.1, .int m_t.2.2, .ref a7, g8, g9, g10, g11, g12, g13, g14, g15, g16, g17, g18, .ref a1, g19, .ref a2, .ref a3, .int m_h.2.2.1, .int m_h.2.2.2, g20, g21, g22, g23, g24, g25, g26, g27, g28]))])) [0] rfl) (hK.sub (tys' := ([])) [] rfl) (hD.sub (ws' := ([(a0, .inr (9, [.int 0, .int m_t.2.1, .int m_t.2.2, .ref a7, g8, g9, g10, g11, g12, g13, g14, g15, g16, g17, g18, .ref a1, g19, .ref a2, .ref a3, .int m_h.2.2.1, .int m_h.2.2.2, g20, g21, g22, g23, g24, g25, g26, g27, g28]))])) [0] (by decide) rfl) hN 0 rfl rfl) rfl rfl hl.1 rfl (lv_room (Nat.le_of_ble_eq_true rfl)) dX12_mark_28 ⟨(Nat.le_of_ble_eq_true rfl), (Nat.le_of_ble_eq_true rfl)⟩) hP hD hK hS hA [0] [1, 2, 3] rfl rfl (by decide) (by decide) (fun r28 _ H locs hw hP hD _ hS => ?_)
    obtain rfl := hw
    have hP : va_P (dC, dI) vwCl ([(a1, .inl (cB29, 26, .inl m_v)), (a2, .inl (cB30, 416, .inl m_h.1)), (a3, .inl (cB31, 78, .inl m_h.2.1)), (a0, .inr (9, [.int o28.1, .int o28.2.1, .int o28.2.2, .ref a7, g8, g9, g10, g11, g12, g13, g14, g15, g16, g17, g18, .ref a1, g19, .ref a2, .ref a3, .int m_h.2.2.1, .int m_h.2.2.2, g20, g21, g22, g23, g24, g25, g26, g27, g28]))]) H := hP
    have hD : va_D A ([(a1, .inl (cB29, 26, .inl m_v)), (a2, .inl (cB30, 416, .inl m_h.1)), (a3, .inl (cB31, 78, .inl m_h.2.1)), (a0, .inr (9, [.int o28.1, .int o28.2.1, .int o28.2.2, .ref a7, g8, g9, g10, g11, g12, g13, g14, g15, g16, g17, g18, .ref a1, g19, .ref a2, .ref a3, .int m_h.2.2.1, .int m_h.2.2.2, g20, g21, g22, g23, g24, g25, g26, g27, g28]))]) := hD
    obtain rfl := Option.some.inj h
    have hP9 := hP.sub (ws' := ([(a0, .inr (9, [.int o28.1, .int o28.2.1, .int o28.2.2, .ref a7, g8, g9, g10, g11, g12, g13, g14, g15, g16, g17, g18, .ref a1, g19, .ref a2, .ref a3, .int m_h.2.2.1, .int m_h.2.2.2, g20, g21, g22, g23, g24, g25, g26, g27, g28])), (a1, .inl (cB29, 26, .inl m_v)), (a2, .inl (cB30, 416, .inl m_h.1)), (a3, .inl (cB31, 78, .inl m_h.2.1))])) [3, 0, 1, 2] rfl
    have hD9 := hD.sub (ws' := ([(a0, .inr (9, [.int o28.1, .int o28.2.1, .int o28.2.2, .ref a7, g8, g9, g10, g11, g12, g13, g14, g15, g16, g17, g18, .ref a1, g19, .ref a2, .ref a3, .int m_h.2.2.1, .int m_h.2.2.2, g20, g21, g22, g23, g24, g25, g26, g27, g28])), (a1, .inl (cB29, 26, .inl m_v)), (a2, .inl (cB30, 416, .inl m_h.1)), (a3, .inl (cB31, 78, .inl m_h.2.1))])) [3, 0, 1, 2] (by decide) rfl
    have hK9 := hK.sub (tys' := []) [] rfl
    rw [hQQ]
    exact W.iret (v := (-1 : Int32)) hx hb hr (fun t ht hW => ⟨⟨(-1 : Int32), (), rfl, rfl, by rw [ht]; exact hP9, va_K.moved hW.alike hK9, hD9⟩, hS.F ht⟩) hS.2.2 dX12_mark_31
theorem dX12_back_0 : decode cX12_back 0 = .ok (.aload_n 0, 1) := by decide +kernel
theorem dX12_back_1 : decode cX12_back 1 = .ok (.iconst 0, 1) := by decide +kernel
theorem dX12_back_12 : decode cX12_back 12 = .ok (.iload_n 1, 1) := by decide +kernel
theorem dX12_back_13 : decode cX12_back 13 = .ok (.ifCond .lt 11, 3) := by decide +kernel
theorem dX12_back_16 : decode cX12_back 16 = .ok (.iload_n 1, 1) := by decide +kernel
theorem dX12_back_17 : decode cX12_back 17 = .ok (.aload_n 0, 1) := by decide +kernel
theorem dX12_back_18 : decode cX12_back 18 = .ok (.getfield 304, 3) := by decide +kernel
theorem dX12_back_2 : decode cX12_back 2 = .ok (.putfield 36, 3) := by decide +kernel
theorem dX12_back_21 : decode cX12_back 21 = .ok (.if_icmp .lt 9, 3) := by decide +kernel
theorem dX12_back_24 : decode cX12_back 24 = .ok (.aload_n 0, 1) := by decide +kernel
theorem dX12_back_25 : decode cX12_back 25 = .ok (.iconst 1, 1) := by decide +kernel
theorem dX12_back_26 : decode cX12_back 26 = .ok (.invokevirtual 498, 3) := by decide +kernel
theorem dX12_back_29 : decode cX12_back 29 = .ok (.ireturn, 1) := by decide +kernel
theorem dX12_back_30 : decode cX12_back 30 = .ok (.iconst 0, 1) := by decide +kernel
theorem dX12_back_31 : decode cX12_back 31 = .ok (.istore_n 2, 1) := by decide +kernel
theorem dX12_back_32 : decode cX12_back 32 = .ok (.iload_n 2, 1) := by decide +kernel
theorem dX12_back_33 : decode cX12_back 33 = .ok (.bipush 26, 2) := by decide +kernel
theorem dX12_back_35 : decode cX12_back 35 = .ok (.if_icmp .ge 26, 3) := by decide +kernel
theorem dX12_back_38 : decode cX12_back 38 = .ok (.aload_n 0, 1) := by decide +kernel
theorem dX12_back_39 : decode cX12_back 39 = .ok (.getfield 17, 3) := by decide +kernel
theorem dX12_back_42 : decode cX12_back 42 = .ok (.iload_n 2, 1) := by decide +kernel
theorem dX12_back_43 : decode cX12_back 43 = .ok (.aload_n 0, 1) := by decide +kernel
theorem dX12_back_44 : decode cX12_back 44 = .ok (.getfield 27, 3) := by decide +kernel
theorem dX12_back_47 : decode cX12_back 47 = .ok (.bipush 26, 2) := by decide +kernel
theorem dX12_back_49 : decode cX12_back 49 = .ok (.iload_n 1, 1) := by decide +kernel
theorem dX12_back_5 : decode cX12_back 5 = .ok (.aload_n 0, 1) := by decide +kernel
theorem dX12_back_50 : decode cX12_back 50 = .ok (.imul, 1) := by decide +kernel
theorem dX12_back_51 : decode cX12_back 51 = .ok (.iload_n 2, 1) := by decide +kernel
theorem dX12_back_52 : decode cX12_back 52 = .ok (.iadd, 1) := by decide +kernel
theorem dX12_back_53 : decode cX12_back 53 = .ok (.iaload, 1) := by decide +kernel
theorem dX12_back_54 : decode cX12_back 54 = .ok (.iastore, 1) := by decide +kernel
theorem dX12_back_55 : decode cX12_back 55 = .ok (.iinc 2 1, 3) := by decide +kernel
theorem dX12_back_58 : decode cX12_back 58 = .ok (.goto (-26), 3) := by decide +kernel
theorem dX12_back_6 : decode cX12_back 6 = .ok (.getfield 299, 3) := by decide +kernel
theorem dX12_back_61 : decode cX12_back 61 = .ok (.aload_n 0, 1) := by decide +kernel
theorem dX12_back_62 : decode cX12_back 62 = .ok (.iconst 0, 1) := by decide +kernel
theorem dX12_back_63 : decode cX12_back 63 = .ok (.putfield 301, 3) := by decide +kernel
theorem dX12_back_66 : decode cX12_back 66 = .ok (.aload_n 0, 1) := by decide +kernel
theorem dX12_back_67 : decode cX12_back 67 = .ok (.invokevirtual 504, 3) := by decide +kernel
theorem dX12_back_70 : decode cX12_back 70 = .ok (.ireturn, 1) := by decide +kernel
theorem dX12_back_9 : decode cX12_back 9 = .ok (.ifnull 15, 3) := by decide +kernel
def vfX12_back : List Cond := List.cons (.code yX12_back cX12_back 3 (some .boolean)) (apW [.fieldLink RX12 36 "HookPierModel" "thrown" "I", .fieldLink RX12 299 "HookPierModel" "pier" "LHookPierModel$Pier;", .methodLink RX12 498 yX12_denied, .instanceMethod yX12_denied, .selects RX12 yX12_denied yX12_denied, .initialized RX12, .fieldLink RX12 304 "HookPierModel" "marks" "I", .fieldLink RX12 301 "HookPierModel" "acts" "I", .methodLink RX12 504 yX12_granted, .instanceMethod yX12_granted, .selects RX12 yX12_granted yX12_granted, .fieldLink RX12 17 "HookPierModel" "v" "[I", .fieldLink RX12 27 "HookPierModel" "kept" "[I"] (apW wsX120 (apW vfX12_denied (vfX12_granted))))
theorem ifX12_back_X12 : ∀ w ∈ wsX120, w ∈ vfX12_back := fun _ h => (List.mem_cons_of_mem _ (List.mem_append_right _ (List.mem_append_left _ h)))
theorem qfX12_back : Good vfX12_back := gd_cons (by decide +kernel) (gd_app (gd_dec (by decide +kernel) : Good [.fieldLink RX12 36 "HookPierModel" "thrown" "I", .fieldLink RX12 299 "HookPierModel" "pier" "LHookPierModel$Pier;", .methodLink RX12 498 yX12_denied, .instanceMethod yX12_denied, .selects RX12 yX12_denied yX12_denied, .initialized RX12, .fieldLink RX12 304 "HookPierModel" "marks" "I", .fieldLink RX12 301 "HookPierModel" "acts" "I", .methodLink RX12 504 yX12_granted, .instanceMethod yX12_granted, .selects RX12 yX12_granted yX12_granted, .fieldLink RX12 17 "HookPierModel" "v" "[I", .fieldLink RX12 27 "HookPierModel" "kept" "[I"]) (gd_app qsX12 (gd_app qfX12_denied qfX12_granted)))
theorem gfX12_back_0 : GoodIn vfX12_back (wsV RX12 498 RX12 yX12_denied vfX12_denied) := goodIn_app (goodIn_r [.methodLink RX12 498 yX12_denied, .instanceMethod yX12_denied, .selects RX12 yX12_denied yX12_denied, .initialized RX12] [3, 4, 5, 6] rfl (by decide +kernel)) (goodIn_m (fun _ h => (List.mem_cons_of_mem _ (List.mem_append_right _ (List.mem_append_right _ (List.mem_append_left _ h))))) qfX12_denied)
theorem gfX12_back_1 : GoodIn vfX12_back (wsV RX12 504 RX12 yX12_granted vfX12_granted) := goodIn_app (goodIn_r [.methodLink RX12 504 yX12_granted, .instanceMethod yX12_granted, .selects RX12 yX12_granted yX12_granted, .initialized RX12] [9, 10, 11, 6] rfl (by decide +kernel)) (goodIn_m (fun _ h => (List.mem_cons_of_mem _ (List.mem_append_right _ (List.mem_append_right _ (List.mem_append_right _ h))))) qfX12_granted)
set_option maxHeartbeats 2000000 in
set_option maxRecDepth 100000 in
theorem kfX12_back (l : Launch) (dC : Nat → ClassId) (dI : Nat → Nat → Nat) (a0 : Nat) (k1 : Int32) (a2 : Nat) (a3 : Nat) (a4 : Nat) (m_t : TX12_t) (m_v : TX12_v) (m_h : TX12_h) (a8 : Nat) (g9 : Value) (g10 : Value) (g11 : Value) (g12 : Value) (g13 : Value) (g14 : Value) (g15 : Value) (g16 : Value) (g17 : Value) (g18 : Value) (g19 : Value) (g20 : Value) (g21 : Value) (g22 : Value) (g23 : Value) (g24 : Value) (g25 : Value) (g26 : Value) (g27 : Value) (g28 : Value) (g29 : Value) (cB30 : ClassId) (cB31 : ClassId) (cB32 : ClassId) (sz : Nat) (out : (Int32 × TX12_t × TX12_v × TX12_h)) (h : f_X12_back k1 m_t m_v m_h = some out) : Met l yX12_back vfX12_back ({ frames := 2, cells := 0, slots := 0, locals := 42 }) (PC (dC, dI) [.ref a0, .int k1] sz ([(a0, .inr (9, [.int m_t.1, .int m_t.2.1, .int m_t.2.2, .ref a8, g9, g10, g11, g12, g13, g14, g15, g16, g17, g18, g19, .ref a2, g20, .ref a3, .ref a4, .int m_h.2.2.1, .int m_h.2.2.2, g21, g22, g23, g24, g25, g26, g27, g28, g29])), (a2, .inl (cB30, 26, .inl m_v)), (a3, .inl (cB31, 416, .inl m_h.1)), (a4, .inl (cB32, 78, .inl m_h.2.1))]) ((cB30, .int) :: (cB31, .int) :: (cB32, .int) :: [])) (va_Qi (S := Unit) (fun (r : Int32) _ => r = out.1 ∧ (0 ≤ r.toInt ∧ r.toInt ≤ 1)) (fun _ t => BC (dC, dI) (va_A ([(a0, .inr (9, [.int m_t.1, .int m_t.2.1, .int m_t.2.2, .ref a8, g9, g10, g11, g12, g13, g14, g15, g16, g17, g18, g19, .ref a2, g20, .ref a3, .ref a4, .int m_h.2.2.1, .int m_h.2.2.2, g21, g22, g23, g24, g25, g26, g27, g28, g29])), (a2, .inl (cB30, 26, .inl m_v)), (a3, .inl (cB31, 416, .inl m_h.1)), (a4, .inl (cB32, 78, .inl m_h.2.1))]) sz) ([(a0, .inr (9, [.int out.2.1.1, .int out.2.1.2.1, .int out.2.1.2.2, .ref a8, g9, g10, g11, g12, g13, g14, g15, g16, g17, g18, g19, .ref a2, g20, .ref a3, .ref a4, .int out.2.2.2.2.2.1, .int out.2.2.2.2.2.2, g21, g22, g23, g24, g25, g26, g27, g28, g29])), (a2, .inl (cB30, 26, .inl out.2.2.1)), (a3, .inl (cB31, 416, .inl out.2.2.2.1)), (a4, .inl (cB32, 78, .inl out.2.2.2.2.1))]) [] t) (va_A ([(a0, .inr (9, [.int m_t.1, .int m_t.2.1, .int m_t.2.2, .ref a8, g9, g10, g11, g12, g13, g14, g15, g16, g17, g18, g19, .ref a2, g20, .ref a3, .ref a4, .int m_h.2.2.1, .int m_h.2.2.2, g21, g22, g23, g24, g25, g26, g27, g28, g29])), (a2, .inl (cB30, 26, .inl m_v)), (a3, .inl (cB31, 416, .inl m_h.1)), (a4, .inl (cB32, 78, .inl m_h.2.1))]) sz)) 0 0 (va_A ([(a0, .inr (9, [.int m_t.1, .int m_t.2.1, .int m_t.2.2, .ref a8, g9, g10, g11, g12, g13, g14, g15, g16, g17, g18, g19, .ref a2, g20, .ref a3, .ref a4, .int m_h.2.2.1, .int m_h.2.2.2, g21, g22, g23, g24, g25, g26, g27, g28, g29])), (a2, .inl (cB30, 26, .inl m_v)), (a3, .inl (cB31, 416, .inl m_h.1)), (a4, .inl (cB32, 78, .inl m_h.2.1))]) sz) := by
  refine Met.ofW (cc := cX12_back) (maxL := 3) (ret := (some .boolean)) (by decide) rfl ?_
  intro p e s m args below meth c s₁ B0 hml hv
  obtain ⟨rfl, hsz, hP, hK, hD0, hN⟩ := hv
  have hx := B0.exec
  have hb := B0.bytes
  have hr := B0.returns
  have hts := atoms_spec (ws := vfX12_back) B0.pre
  have hown : s.vm.findClass RX12 = some m.cls := findClass_of_methodNamed B0.named
  have hlocks := B0.notSynchronized
  subst hsz
  have hD := hD0.self (sz := s.heap.size)
  generalize hAe : va_A ([(a0, .inr (9, [.int m_t.1, .int m_t.2.1, .int m_t.2.2, .ref a8, g9, g10, g11, g12, g13, g14, g15, g16, g17, g18, g19, .ref a2, g20, .ref a3, .ref a4, .int m_h.2.2.1, .int m_h.2.2.2, g21, g22, g23, g24, g25, g26, g27, g28, g29])), (a2, .inl (cB30, 26, .inl m_v)), (a3, .inl (cB31, 416, .inl m_h.1)), (a4, .inl (cB32, 78, .inl m_h.2.1))]) s.heap.size = A at hD ⊢
  have hA : ∀ q : Nat, s.heap.size ≤ q → A q := fun q h => by rw [← hAe]; exact Or.inr h
  have hS : va_S A s.heap s.heap [] := va_S.rf
  have hP : va_P (dC, dI) vwCl ([(a0, .inr (9, [.int m_t.1, .int m_t.2.1, .int m_t.2.2, .ref a8, g9, g10, g11, g12, g13, g14, g15, g16, g17, g18, g19, .ref a2, g20, .ref a3, .ref a4, .int m_h.2.2.1, .int m_h.2.2.2, g21, g22, g23, g24, g25, g26, g27, g28, g29])), (a2, .inl (cB30, 26, .inl m_v)), (a3, .inl (cB31, 416, .inl m_h.1)), (a4, .inl (cB32, 78, .inl m_h.2.1))]) s.heap := hP
  have hl := lv_entry ([.ref a0, .int k1]) (n := 3) (Nat.le_of_ble_eq_true rfl)
  rw [lg_entry_eq]
  generalize (lg_sl ([.ref a0, .int k1]) ++ List.replicate (3 - (lg_sl ([.ref a0, .int k1])).length) Slot.unset).toArray = ls at hl ⊢
  have hl : lv_has ls 3 [(0, .ref a0), (1, .int k1)] := hl
  refine W_q (fun QQ hQQ => ?_)
  rw [f_X12_back] at h
  refine lv_aload_n hx hb dX12_back_0 rfl (lv_at hl 0 rfl) ?_
  refine lv_iconst (v := 0) hx hb dX12_back_1 (by decide) ?_
  refine va_put (D := (dC, dI)) (ci := 9) (v := .int 0) (ty := .int) (C := RX12) (T := TX12) (N := 30) hx hb hts ifX12_back_X12 tyX12 tyX12_ok nmX12 hown hK hP hD hS 0 rfl rfl 0 (by decide) (hts (.fieldLink RX12 36 "HookPierModel" "thrown" "I") (List.mem_of_getElem? (i := 1) rfl)) (fun _ h9 => h9) rfl (by decide +kernel) rfl rfl (Nat.le_of_ble_eq_true rfl) dX12_back_2 (fun H locs hP hD hS => ?_)
  have hP : va_P (dC, dI) vwCl ([(a0, .inr (9, [.int 0, .int m_t.2.1, .int m_t.2.2, .ref a8, g9, g10, g11, g12, g13, g14, g15, g16, g17, g18, g19, .ref a2, g20, .ref a3, .ref a4, .int m_h.2.2.1, .int m_h.2.2.2, g21, g22, g23, g24, g25, g26, g27, g28, g29])), (a2, .inl (cB30, 26, .inl m_v)), (a3, .inl (cB31, 416, .inl m_h.1)), (a4, .inl (cB32, 78, .inl m_h.2.1))]) H := hP
  have hD : va_D A ([(a0, .inr (9, [.int 0, .int m_t.2.1, .int m_t.2.2, .ref a8, g9, g10, g11, g12, g13, g14, g15, g16, g17, g18, g19, .ref a2, g20, .ref a3, .ref a4, .int m_h.2.2.1, .int m_h.2.2.2, g21, g22, g23, g24, g25, g26, g27, g28, g29])), (a2, .inl (cB30, 26, .inl m_v)), (a3, .inl (cB31, 416, .inl m_h.1)), (a4, .inl (cB32, 78, .inl m_h.2.1))]) := hD
  refine lv_aload_n hx hb dX12_back_5 rfl (lv_at hl 0 rfl) ?_
  refine va_get (D := (dC, dI)) (ci := 9) (v := .ref a8) (C := RX12) (T := TX12) (N := 30) hx hb hts ifX12_back_X12 hown hK hP 0 rfl rfl 3 (by decide) (hts (.fieldLink RX12 299 "HookPierModel" "pier" "LHookPierModel$Pier;") (List.mem_of_getElem? (i := 2) rfl)) (fun _ h9 => h9) rfl dX12_back_6 ?_
  have J24 : ∀ (H : Heap) (locs : List Loc) (ls : Array Slot), f_X12_back_J24 m_t m_v m_h = some out → va_P (dC, dI) vwCl ([(a0, .inr (9, [.int 0, .int m_t.2.1, .int m_t.2.2, .ref a8, g9, g10, g11, g12, g13, g14, g15, g16, g17, g18, g19, .ref a2, g20, .ref a3, .ref a4, .int m_h.2.2.1, .int m_h.2.2.2, g21, g22, g23, g24, g25, g26, g27, g28, g29])), (a2, .inl (cB30, 26, .inl m_v)), (a3, .inl (cB31, 416, .inl m_h.1)), (a4, .inl (cB32, 78, .inl m_h.2.1))]) H → va_D A ([(a0, .inr (9, [.int 0, .int m_t.2.1, .int m_t.2.2, .ref a8, g9, g10, g11, g12, g13, g14, g15, g16, g17, g18, g19, .ref a2, g20, .ref a3, .ref a4, .int m_h.2.2.1, .int m_h.2.2.2, g21, g22, g23, g24, g25, g26, g27, g28, g29])), (a2, .inl (cB30, 26, .inl m_v)), (a3, .inl (cB31, 416, .inl m_h.1)), (a4, .inl (cB32, 78, .inl m_h.2.1))]) → va_S A s.heap H locs → lv_has ls 3 [(0, .ref a0)] → W p l e (headSpec vfX12_back { frames := 2, cells := 0, slots := 0, locals := 42 }).room s m ([.ref a0, .int k1]).toArray below meth c H locs 0 0 QQ (F0 m 24 ls []) := by
    intro  H locs ls h  hP hD hS hl
    rw [f_X12_back_J24] at h
    refine lv_aload_n hx hb dX12_back_24 rfl (lv_at hl 0 rfl) ?_
    refine lv_iconst (v := 1) hx hb dX12_back_25 (by decide) ?_
    obtain ⟨o26, eo26⟩ : ∃ o, o = f_X12_denied (1 : Int32) ((0 : Int32), m_t.2) := ⟨_, rfl⟩
    have h := nm_of h o26 eo26
    refine cl_i (wc := ([(a0, .inr (9, [.int 0, .int m_t.2.1, .int m_t.2.2, .ref a8, g9, g10, g11, g12, g13, g14, g15, g16, g17, g18, g19, .ref a2, g20, .ref a3, .ref a4, .int m_h.2.2.1, .int m_h.2.2.2, g21, g22, g23, g24, g25, g26, g27, g28, g29]))])) (wr := ([(a2, .inl (cB30, 26, .inl m_v)), (a3, .inl (cB31, 416, .inl m_h.1)), (a4, .inl (cB32, 78, .inl m_h.2.1))])) (va_runV (As := [.int 1]) (rest := []) ⟨hx, hb, hml, hown, hts⟩ (kfX12_denied l dC dI a0 (1 : Int32) ((0 : Int32), m_t.2) (.ref a8) (g9) (g10) (g11) (g12) (g13) (g14) (g15) (g16) (g17) (g18) (g19) (.ref a2) (g20) (.ref a3) (.ref a4) (.int m_h.2.2.1) (.int m_h.2.2.2) (g21) (g22) (g23) (g24) (g25) (g26) (g27) (g28) (g29) H.size o26 eo26.symm) (cwV 1 hts gfX12_back_0 rfl rfl rfl (by decide +kernel) ⟨(Nat.le_of_ble_eq_true rfl), (Nat.le_of_ble_eq_true rfl)⟩) (PV (hP.sub (ws' := ([(a0, .inr (9, [.int 0, .int m_t.2.1, .int m_t.2.2, .ref a8, g9, g10, g11, g12, g13, g14, g15, g16, g17, g18, g19, .ref a2, g20, .ref a3, .ref a4, .int m_h.2.2.1, .int m_h.2.2.2, g21, g22, g23, g24, g25, g26, g27, g28, g29]))])) [0] rfl) (hK.sub (tys' := ([])) [] rfl) (hD.sub (ws' := ([(a0, .inr (9, [.int 0, .int m_t.2.1, .int m_t.2.2, .ref a8, g9, g10, g11, g12, g13, g14, g15, g16, g17, g18, g19, .ref a2, g20, .ref a3, .ref a4, .int m_h.2.2.1, .int m_h.2.2.2, g21, g22, g23, g24, g25, g26, g27, g28, g29]))])) [0] (by decide) rfl) hN 0 rfl rfl) rfl rfl hl.1 rfl (lv_room (Nat.le_of_ble_eq_true rfl)) dX12_back_26 ⟨(Nat.le_of_ble_eq_true rfl), (Nat.le_of_ble_eq_true rfl)⟩) hP hD hK hS hA [0] [1, 2, 3] rfl rfl (by decide) (by decide) (fun r26 _ H locs hw hP hD _ hS => ?_)
    obtain ⟨hw, br26⟩ := hw
    obtain rfl := hw
    have hP : va_P (dC, dI) vwCl ([(a2, .inl (cB30, 26, .inl m_v)), (a3, .inl (cB31, 416, .inl m_h.1)), (a4, .inl (cB32, 78, .inl m_h.2.1)), (a0, .inr (9, [.int o26.1, .int o26.2.1, .int o26.2.2, .ref a8, g9, g10, g11, g12, g13, g14, g15, g16, g17, g18, g19, .ref a2, g20, .ref a3, .ref a4, .int m_h.2.2.1, .int m_h.2.2.2, g21, g22, g23, g24, g25, g26, g27, g28, g29]))]) H := hP
    have hD : va_D A ([(a2, .inl (cB30, 26, .inl m_v)), (a3, .inl (cB31, 416, .inl m_h.1)), (a4, .inl (cB32, 78, .inl m_h.2.1)), (a0, .inr (9, [.int o26.1, .int o26.2.1, .int o26.2.2, .ref a8, g9, g10, g11, g12, g13, g14, g15, g16, g17, g18, g19, .ref a2, g20, .ref a3, .ref a4, .int m_h.2.2.1, .int m_h.2.2.2, g21, g22, g23, g24, g25, g26, g27, g28, g29]))]) := hD
    obtain rfl := Option.some.inj h
    have hP9 := hP.sub (ws' := ([(a0, .inr (9, [.int o26.1, .int o26.2.1, .int o26.2.2, .ref a8, g9, g10, g11, g12, g13, g14, g15, g16, g17, g18, g19, .ref a2, g20, .ref a3, .ref a4, .int m_h.2.2.1, .int m_h.2.2.2, g21, g22, g23, g24, g25, g26, g27, g28, g29])), (a2, .inl (cB30, 26, .inl m_v)), (a3, .inl (cB31, 416, .inl m_h.1)), (a4, .inl (cB32, 78, .inl m_h.2.1))])) [3, 0, 1, 2] rfl
    have hD9 := hD.sub (ws' := ([(a0, .inr (9, [.int o26.1, .int o26.2.1, .int o26.2.2, .ref a8, g9, g10, g11, g12, g13, g14, g15, g16, g17, g18, g19, .ref a2, g20, .ref a3, .ref a4, .int m_h.2.2.1, .int m_h.2.2.2, g21, g22, g23, g24, g25, g26, g27, g28, g29])), (a2, .inl (cB30, 26, .inl m_v)), (a3, .inl (cB31, 416, .inl m_h.1)), (a4, .inl (cB32, 78, .inl m_h.2.1))])) [3, 0, 1, 2] (by decide) rfl
    have hK9 := hK.sub (tys' := []) [] rfl
    rw [hQQ]
    exact W.zret (v := (0 : Int32)) hx hb hr rfl (fun t ht hW => ⟨⟨(0 : Int32), (), rfl, ⟨rfl, (by decide)⟩, by rw [ht]; exact hP9, va_K.moved hW.alike hK9, hD9⟩, hS.F ht⟩) hS.2.2 dX12_back_29
  refine lv_ifnull hx hb dX12_back_9 ?_
  refine lv_iload_n hx hb dX12_back_12 rfl (lv_at hl 1 rfl) ?_
  refine lv_if_lt (tgt := 24) hx hb dX12_back_13 (by decide) (fun c13 => ?_) (fun c13 => ?_)
  · have h := (if_pos c13).symm.trans h
    exact J24  H _ ls h  hP hD hS (lv_sub hl [0] rfl)
  · have h := (if_neg c13).symm.trans h
    refine lv_iload_n hx hb dX12_back_16 rfl (lv_at hl 1 rfl) ?_
    refine lv_aload_n hx hb dX12_back_17 rfl (lv_at hl 0 rfl) ?_
    refine va_get (D := (dC, dI)) (ci := 9) (v := .int m_h.2.2.2) (C := RX12) (T := TX12) (N := 30) hx hb hts ifX12_back_X12 hown hK hP 0 rfl rfl 20 (by decide) (hts (.fieldLink RX12 304 "HookPierModel" "marks" "I") (List.mem_of_getElem? (i := 7) rfl)) (fun _ h9 => h9) rfl dX12_back_18 ?_
    refine lv_icmp_lt (tgt := 30) hx hb dX12_back_21 (by decide) (fun c21 => ?_) (fun c21 => ?_)
    · have h := (if_pos c21).symm.trans h
      refine lv_iconst (v := 0) hx hb dX12_back_30 (by decide) ?_
      refine lv_istore_n (lv' := [(2, .int 0), (0, .ref a0), (1, .int k1)]) hx hb dX12_back_31 rfl hl (by decide) rfl (fun ls hl => ?_)
      have L32 : ∀ (n32 : Nat) (v32_l2 : Int32) (v32_m_v : TX12_v) (H : Heap) (locs : List Loc) (ls : Array Slot), f_X12_back_L32 k1 m_t m_h n32 v32_l2 v32_m_v = some out → va_P (dC, dI) vwCl ([(a0, .inr (9, [.int 0, .int m_t.2.1, .int m_t.2.2, .ref a8, g9, g10, g11, g12, g13, g14, g15, g16, g17, g18, g19, .ref a2, g20, .ref a3, .ref a4, .int m_h.2.2.1, .int m_h.2.2.2, g21, g22, g23, g24, g25, g26, g27, g28, g29])), (a2, .inl (cB30, 26, .inl v32_m_v)), (a3, .inl (cB31, 416, .inl m_h.1)), (a4, .inl (cB32, 78, .inl m_h.2.1))]) H → va_D A ([(a0, .inr (9, [.int 0, .int m_t.2.1, .int m_t.2.2, .ref a8, g9, g10, g11, g12, g13, g14, g15, g16, g17, g18, g19, .ref a2, g20, .ref a3, .ref a4, .int m_h.2.2.1, .int m_h.2.2.2, g21, g22, g23, g24, g25, g26, g27, g28, g29])), (a2, .inl (cB30, 26, .inl v32_m_v)), (a3, .inl (cB31, 416, .inl m_h.1)), (a4, .inl (cB32, 78, .inl m_h.2.1))]) → va_S A s.heap H locs → lv_has ls 3 [(2, .int v32_l2), (0, .ref a0), (1, .int k1)] → W p l e (headSpec vfX12_back { frames := 2, cells := 0, slots := 0, locals := 42 }).room s m ([.ref a0, .int k1]).toArray below meth c H locs 0 0 QQ (F0 m 32 ls []) := by
        intro n32
        induction n32 with
        | zero =>
          intro v32_l2 v32_m_v H locs ls h  _ _ _ _
          rw [f_X12_back_L32] at h
          cases h
        | succ n32 ih32 =>
          intro v32_l2 v32_m_v H locs ls h  hP hD hS hl
          rw [f_X12_back_L32] at h
          refine lv_iload_n hx hb dX12_back_32 rfl (lv_at hl 0 rfl) ?_
          refine lv_bipush (v := 26) hx hb dX12_back_33 (by decide) ?_
          refine lv_icmp_ge (tgt := 61) hx hb dX12_back_35 (by decide) (fun c35 => ?_) (fun c35 => ?_)
          · have h := (if_pos c35).symm.trans h
            refine lv_aload_n hx hb dX12_back_61 rfl (lv_at hl 1 rfl) ?_
            refine lv_iconst (v := 0) hx hb dX12_back_62 (by decide) ?_
            refine va_put (D := (dC, dI)) (ci := 9) (v := .int 0) (ty := .int) (C := RX12) (T := TX12) (N := 30) hx hb hts ifX12_back_X12 tyX12 tyX12_ok nmX12 hown hK hP hD hS 0 rfl rfl 19 (by decide) (hts (.fieldLink RX12 301 "HookPierModel" "acts" "I") (List.mem_of_getElem? (i := 8) rfl)) (fun _ h9 => h9) rfl (by decide +kernel) rfl rfl (Nat.le_of_ble_eq_true rfl) dX12_back_63 (fun H locs hP hD hS => ?_)
            have hP : va_P (dC, dI) vwCl ([(a0, .inr (9, [.int 0, .int m_t.2.1, .int m_t.2.2, .ref a8, g9, g10, g11, g12, g13, g14, g15, g16, g17, g18, g19, .ref a2, g20, .ref a3, .ref a4, .int 0, .int m_h.2.2.2, g21, g22, g23, g24, g25, g26, g27, g28, g29])), (a2, .inl (cB30, 26, .inl v32_m_v)), (a3, .inl (cB31, 416, .inl m_h.1)), (a4, .inl (cB32, 78, .inl m_h.2.1))]) H := hP
            have hD : va_D A ([(a0, .inr (9, [.int 0, .int m_t.2.1, .int m_t.2.2, .ref a8, g9, g10, g11, g12, g13, g14, g15, g16, g17, g18, g19, .ref a2, g20, .ref a3, .ref a4, .int 0, .int m_h.2.2.2, g21, g22, g23, g24, g25, g26, g27, g28, g29])), (a2, .inl (cB30, 26, .inl v32_m_v)), (a3, .inl (cB31, 416, .inl m_h.1)), (a4, .inl (cB32, 78, .inl m_h.2.1))]) := hD
            refine lv_aload_n hx hb dX12_back_66 rfl (lv_at hl 1 rfl) ?_
            obtain ⟨o67, eo67⟩ : ∃ o, o = f_X12_granted ((0 : Int32), m_t.2) := ⟨_, rfl⟩
            have h := nm_of h o67 eo67
            refine cl_i (wc := ([(a0, .inr (9, [.int 0, .int m_t.2.1, .int m_t.2.2, .ref a8, g9, g10, g11, g12, g13, g14, g15, g16, g17, g18, g19, .ref a2, g20, .ref a3, .ref a4, .int 0, .int m_h.2.2.2, g21, g22, g23, g24, g25, g26, g27, g28, g29]))])) (wr := ([(a2, .inl (cB30, 26, .inl v32_m_v)), (a3, .inl (cB31, 416, .inl m_h.1)), (a4, .inl (cB32, 78, .inl m_h.2.1))])) (va_runV (As := []) (rest := []) ⟨hx, hb, hml, hown, hts⟩ (kfX12_granted l dC dI a0 ((0 : Int32), m_t.2) (.ref a8) (g9) (g10) (g11) (g12) (g13) (g14) (g15) (g16) (g17) (g18) (g19) (.ref a2) (g20) (.ref a3) (.ref a4) (.int 0) (.int m_h.2.2.2) (g21) (g22) (g23) (g24) (g25) (g26) (g27) (g28) (g29) H.size o67 eo67.symm) (cwV 0 hts gfX12_back_1 rfl rfl rfl (by decide +kernel) ⟨(Nat.le_of_ble_eq_true rfl), (Nat.le_of_ble_eq_true rfl)⟩) (PV (hP.sub (ws' := ([(a0, .inr (9, [.int 0, .int m_t.2.1, .int m_t.2.2, .ref a8, g9, g10, g11, g12, g13, g14, g15, g16, g17, g18, g19, .ref a2, g20, .ref a3, .ref a4, .int 0, .int m_h.2.2.2, g21, g22, g23, g24, g25, g26, g27, g28, g29]))])) [0] rfl) (hK.sub (tys' := ([])) [] rfl) (hD.sub (ws' := ([(a0, .inr (9, [.int 0, .int m_t.2.1, .int m_t.2.2, .ref a8, g9, g10, g11, g12, g13, g14, g15, g16, g17, g18, g19, .ref a2, g20, .ref a3, .ref a4, .int 0, .int m_h.2.2.2, g21, g22, g23, g24, g25, g26, g27, g28, g29]))])) [0] (by decide) rfl) hN 0 rfl rfl) rfl rfl hl.1 rfl (lv_room (Nat.le_of_ble_eq_true rfl)) dX12_back_67 ⟨(Nat.le_of_ble_eq_true rfl), (Nat.le_of_ble_eq_true rfl)⟩) hP hD hK hS hA [0] [1, 2, 3] rfl rfl (by decide) (by decide) (fun r67 _ H locs hw hP hD _ hS => ?_)
            obtain ⟨hw, br67⟩ := hw
            obtain rfl := hw
            have hP : va_P (dC, dI) vwCl ([(a2, .inl (cB30, 26, .inl v32_m_v)), (a3, .inl (cB31, 416, .inl m_h.1)), (a4, .inl (cB32, 78, .inl m_h.2.1)), (a0, .inr (9, [.int o67.1, .int o67.2.1, .int o67.2.2, .ref a8, g9, g10, g11, g12, g13, g14, g15, g16, g17, g18, g19, .ref a2, g20, .ref a3, .ref a4, .int 0, .int m_h.2.2.2, g21, g22, g23, g24, g25, g26, g27, g28, g29]))]) H := hP
            have hD : va_D A ([(a2, .inl (cB30, 26, .inl v32_m_v)), (a3, .inl (cB31, 416, .inl m_h.1)), (a4, .inl (cB32, 78, .inl m_h.2.1)), (a0, .inr (9, [.int o67.1, .int o67.2.1, .int o67.2.2, .ref a8, g9, g10, g11, g12, g13, g14, g15, g16, g17, g18, g19, .ref a2, g20, .ref a3, .ref a4, .int 0, .int m_h.2.2.2, g21, g22, g23, g24, g25, g26, g27, g28, g29]))]) := hD
            obtain rfl := Option.some.inj h
            have hP9 := hP.sub (ws' := ([(a0, .inr (9, [.int o67.1, .int o67.2.1, .int o67.2.2, .ref a8, g9, g10, g11, g12, g13, g14, g15, g16, g17, g18, g19, .ref a2, g20, .ref a3, .ref a4, .int 0, .int m_h.2.2.2, g21, g22, g23, g24, g25, g26, g27, g28, g29])), (a2, .inl (cB30, 26, .inl v32_m_v)), (a3, .inl (cB31, 416, .inl m_h.1)), (a4, .inl (cB32, 78, .inl m_h.2.1))])) [3, 0, 1, 2] rfl
            have hD9 := hD.sub (ws' := ([(a0, .inr (9, [.int o67.1, .int o67.2.1, .int o67.2.2, .ref a8, g9, g10, g11, g12, g13, g14, g15, g16, g17, g18, g19, .ref a2, g20, .ref a3, .ref a4, .int 0, .int m_h.2.2.2, g21, g22, g23, g24, g25, g26, g27, g28, g29])), (a2, .inl (cB30, 26, .inl v32_m_v)), (a3, .inl (cB31, 416, .inl m_h.1)), (a4, .inl (cB32, 78, .inl m_h.2.1))])) [3, 0, 1, 2] (by decide) rfl
            have hK9 := hK.sub (tys' := []) [] rfl
            rw [hQQ]
            exact W.zret (v := (1 : Int32)) hx hb hr rfl (fun t ht hW => ⟨⟨(1 : Int32), (), rfl, ⟨rfl, (by decide)⟩, by rw [ht]; exact hP9, va_K.moved hW.alike hK9, hD9⟩, hS.F ht⟩) hS.2.2 dX12_back_70
          · have h := (if_neg c35).symm.trans h
            refine lv_aload_n hx hb dX12_back_38 rfl (lv_at hl 1 rfl) ?_
            refine va_get (D := (dC, dI)) (ci := 9) (v := .ref a2) (C := RX12) (T := TX12) (N := 30) hx hb hts ifX12_back_X12 hown hK hP 0 rfl rfl 15 (by decide) (hts (.fieldLink RX12 17 "HookPierModel" "v" "[I") (List.mem_of_getElem? (i := 12) rfl)) (fun _ h9 => h9) rfl dX12_back_39 ?_
            refine lv_iload_n hx hb dX12_back_42 rfl (lv_at hl 0 rfl) ?_
            refine lv_aload_n hx hb dX12_back_43 rfl (lv_at hl 1 rfl) ?_
            refine va_get (D := (dC, dI)) (ci := 9) (v := .ref a4) (C := RX12) (T := TX12) (N := 30) hx hb hts ifX12_back_X12 hown hK hP 0 rfl rfl 18 (by decide) (hts (.fieldLink RX12 27 "HookPierModel" "kept" "[I") (List.mem_of_getElem? (i := 13) rfl)) (fun _ h9 => h9) rfl dX12_back_44 ?_
            refine lv_bipush (v := 26) hx hb dX12_back_47 (by decide) ?_
            refine lv_iload_n hx hb dX12_back_49 rfl (lv_at hl 2 rfl) ?_
            refine lv_imul hx hb dX12_back_50 ?_
            refine lv_iload_n hx hb dX12_back_51 rfl (lv_at hl 0 rfl) ?_
            refine lv_iadd hx hb dX12_back_52 ?_
            obtain ⟨hg53, h⟩ := gA_of h
            refine va_iald hx hb hK hP 3 2 rfl rfl hg53 dX12_back_53 ?_
            obtain ⟨hg54, h⟩ := gA_of h
            refine va_iast hx hb hK hP hD hS 1 0 rfl rfl hg54 dX12_back_54 (fun H locs hP hD hS => ?_)
            have hP : va_P (dC, dI) vwCl ([(a0, .inr (9, [.int 0, .int m_t.2.1, .int m_t.2.2, .ref a8, g9, g10, g11, g12, g13, g14, g15, g16, g17, g18, g19, .ref a2, g20, .ref a3, .ref a4, .int m_h.2.2.1, .int m_h.2.2.2, g21, g22, g23, g24, g25, g26, g27, g28, g29])), (a2, .inl (cB30, 26, .inl (upd v32_m_v (v32_l2).toNatClampNeg (m_h.2.1 ((((26 : Int32) * k1) + v32_l2)).toNatClampNeg)))), (a3, .inl (cB31, 416, .inl m_h.1)), (a4, .inl (cB32, 78, .inl m_h.2.1))]) H := hP
            have hD : va_D A ([(a0, .inr (9, [.int 0, .int m_t.2.1, .int m_t.2.2, .ref a8, g9, g10, g11, g12, g13, g14, g15, g16, g17, g18, g19, .ref a2, g20, .ref a3, .ref a4, .int m_h.2.2.1, .int m_h.2.2.2, g21, g22, g23, g24, g25, g26, g27, g28, g29])), (a2, .inl (cB30, 26, .inl (upd v32_m_v (v32_l2).toNatClampNeg (m_h.2.1 ((((26 : Int32) * k1) + v32_l2)).toNatClampNeg)))), (a3, .inl (cB31, 416, .inl m_h.1)), (a4, .inl (cB32, 78, .inl m_h.2.1))]) := hD
            refine lv_iinc (v := (v32_l2 + (1 : Int32))) (lv' := [(2, .int (v32_l2 + (1 : Int32))), (0, .ref a0), (1, .int k1)]) hx hb dX12_back_55 hl (k := 0) rfl rfl (by decide) rfl (fun ls hl => ?_)
            refine lv_goto (tgt := 32) hx hb dX12_back_58 (by decide) ?_
            exact ih32 (v32_l2 + (1 : Int32)) (upd v32_m_v (v32_l2).toNatClampNeg (m_h.2.1 ((((26 : Int32) * k1) + v32_l2)).toNatClampNeg)) H _ ls h  hP hD hS (lv_sub hl [0, 1, 2] rfl)
      exact L32 FU (0 : Int32) m_v H _ ls h  hP hD hS (lv_sub hl [0, 1, 2] rfl)
    · have h := (if_neg c21).symm.trans h
      exact J24  H _ ls h  hP hD hS (lv_sub hl [0] rfl)
theorem dX12_fault_0 : decode cX12_fault 0 = .ok (.aload_n 0, 1) := by decide +kernel
theorem dX12_fault_1 : decode cX12_fault 1 = .ok (.iconst 0, 1) := by decide +kernel
theorem dX12_fault_2 : decode cX12_fault 2 = .ok (.putfield 36, 3) := by decide +kernel
theorem dX12_fault_5 : decode cX12_fault 5 = .ok (.aload_n 0, 1) := by decide +kernel
theorem dX12_fault_6 : decode cX12_fault 6 = .ok (.getfield 94, 3) := by decide +kernel
theorem dX12_fault_9 : decode cX12_fault 9 = .ok (.ireturn, 1) := by decide +kernel
def vfX12_fault : List Cond := List.cons (.code yX12_fault cX12_fault 1 (some .int)) (apW [.fieldLink RX12 36 "HookPierModel" "thrown" "I", .fieldLink RX12 94 "HookPierModel" "fault" "I"] (wsX120))
theorem ifX12_fault_X12 : ∀ w ∈ wsX120, w ∈ vfX12_fault := fun _ h => (List.mem_cons_of_mem _ (List.mem_append_right _ h))
theorem qfX12_fault : Good vfX12_fault := gd_cons (by decide +kernel) (gd_app (gd_dec (by decide +kernel) : Good [.fieldLink RX12 36 "HookPierModel" "thrown" "I", .fieldLink RX12 94 "HookPierModel" "fault" "I"]) qsX12)
set_option maxHeartbeats 2000000 in
set_option maxRecDepth 100000 in
theorem kfX12_fault (l : Launch) (dC : Nat → ClassId) (dI : Nat → Nat → Nat) (a0 : Nat) (a1 : Nat) (m_t : TX12_t) (m_s : TX12_s) (g4 : Value) (g5 : Value) (g6 : Value) (g7 : Value) (g8 : Value) (g9 : Value) (g10 : Value) (g11 : Value) (g12 : Value) (g13 : Value) (g14 : Value) (g15 : Value) (g16 : Value) (g17 : Value) (g18 : Value) (g19 : Value) (g20 : Value) (cB21 : ClassId) (sz : Nat) (out : (Int32 × TX12_t)) (h : f_X12_fault m_t m_s = out) : Met l yX12_fault vfX12_fault ({ frames := 0, cells := 0, slots := 0, locals := 0 }) (PC (dC, dI) [.ref a0] sz ([(a0, .inr (9, [.int m_t.1, .int m_t.2.1, .int m_t.2.2, g4, g5, .ref a1, .int m_s.2.1, .int m_s.2.2.1, .int m_s.2.2.2.1, .int m_s.2.2.2.2.1, .int m_s.2.2.2.2.2.1, .int m_s.2.2.2.2.2.2.1, .int m_s.2.2.2.2.2.2.2.1, .int m_s.2.2.2.2.2.2.2.2.1, .long m_s.2.2.2.2.2.2.2.2.2, g6, g7, g8, g9, g10, g11, g12, g13, g14, g15, g16, g17, g18, g19, g20])), (a1, .inl (cB21, 900, .inl m_s.1))]) ((cB21, .byte) :: [])) (va_Qi (S := Unit) (fun (r : Int32) _ => r = out.1) (fun _ t => BC (dC, dI) (va_A ([(a0, .inr (9, [.int m_t.1, .int m_t.2.1, .int m_t.2.2, g4, g5, .ref a1, .int m_s.2.1, .int m_s.2.2.1, .int m_s.2.2.2.1, .int m_s.2.2.2.2.1, .int m_s.2.2.2.2.2.1, .int m_s.2.2.2.2.2.2.1, .int m_s.2.2.2.2.2.2.2.1, .int m_s.2.2.2.2.2.2.2.2.1, .long m_s.2.2.2.2.2.2.2.2.2, g6, g7, g8, g9, g10, g11, g12, g13, g14, g15, g16, g17, g18, g19, g20])), (a1, .inl (cB21, 900, .inl m_s.1))]) sz) ([(a0, .inr (9, [.int out.2.1, .int out.2.2.1, .int out.2.2.2, g4, g5, .ref a1, .int m_s.2.1, .int m_s.2.2.1, .int m_s.2.2.2.1, .int m_s.2.2.2.2.1, .int m_s.2.2.2.2.2.1, .int m_s.2.2.2.2.2.2.1, .int m_s.2.2.2.2.2.2.2.1, .int m_s.2.2.2.2.2.2.2.2.1, .long m_s.2.2.2.2.2.2.2.2.2, g6, g7, g8, g9, g10, g11, g12, g13, g14, g15, g16, g17, g18, g19, g20])), (a1, .inl (cB21, 900, .inl m_s.1))]) [] t) (va_A ([(a0, .inr (9, [.int m_t.1, .int m_t.2.1, .int m_t.2.2, g4, g5, .ref a1, .int m_s.2.1, .int m_s.2.2.1, .int m_s.2.2.2.1, .int m_s.2.2.2.2.1, .int m_s.2.2.2.2.2.1, .int m_s.2.2.2.2.2.2.1, .int m_s.2.2.2.2.2.2.2.1, .int m_s.2.2.2.2.2.2.2.2.1, .long m_s.2.2.2.2.2.2.2.2.2, g6, g7, g8, g9, g10, g11, g12, g13, g14, g15, g16, g17, g18, g19, g20])), (a1, .inl (cB21, 900, .inl m_s.1))]) sz)) 0 0 (va_A ([(a0, .inr (9, [.int m_t.1, .int m_t.2.1, .int m_t.2.2, g4, g5, .ref a1, .int m_s.2.1, .int m_s.2.2.1, .int m_s.2.2.2.1, .int m_s.2.2.2.2.1, .int m_s.2.2.2.2.2.1, .int m_s.2.2.2.2.2.2.1, .int m_s.2.2.2.2.2.2.2.1, .int m_s.2.2.2.2.2.2.2.2.1, .long m_s.2.2.2.2.2.2.2.2.2, g6, g7, g8, g9, g10, g11, g12, g13, g14, g15, g16, g17, g18, g19, g20])), (a1, .inl (cB21, 900, .inl m_s.1))]) sz) := by
  refine Met.ofW (cc := cX12_fault) (maxL := 1) (ret := (some .int)) (by decide) rfl ?_
  intro p e s m args below meth c s₁ B0 hml hv
  obtain ⟨rfl, hsz, hP, hK, hD0, hN⟩ := hv
  have hx := B0.exec
  have hb := B0.bytes
  have hr := B0.returns
  have hts := atoms_spec (ws := vfX12_fault) B0.pre
  have hown : s.vm.findClass RX12 = some m.cls := findClass_of_methodNamed B0.named
  have hlocks := B0.notSynchronized
  subst hsz
  have hD := hD0.self (sz := s.heap.size)
  generalize hAe : va_A ([(a0, .inr (9, [.int m_t.1, .int m_t.2.1, .int m_t.2.2, g4, g5, .ref a1, .int m_s.2.1, .int m_s.2.2.1, .int m_s.2.2.2.1, .int m_s.2.2.2.2.1, .int m_s.2.2.2.2.2.1, .int m_s.2.2.2.2.2.2.1, .int m_s.2.2.2.2.2.2.2.1, .int m_s.2.2.2.2.2.2.2.2.1, .long m_s.2.2.2.2.2.2.2.2.2, g6, g7, g8, g9, g10, g11, g12, g13, g14, g15, g16, g17, g18, g19, g20])), (a1, .inl (cB21, 900, .inl m_s.1))]) s.heap.size = A at hD ⊢
  have hA : ∀ q : Nat, s.heap.size ≤ q → A q := fun q h => by rw [← hAe]; exact Or.inr h
  have hS : va_S A s.heap s.heap [] := va_S.rf
  have hP : va_P (dC, dI) vwCl ([(a0, .inr (9, [.int m_t.1, .int m_t.2.1, .int m_t.2.2, g4, g5, .ref a1, .int m_s.2.1, .int m_s.2.2.1, .int m_s.2.2.2.1, .int m_s.2.2.2.2.1, .int m_s.2.2.2.2.2.1, .int m_s.2.2.2.2.2.2.1, .int m_s.2.2.2.2.2.2.2.1, .int m_s.2.2.2.2.2.2.2.2.1, .long m_s.2.2.2.2.2.2.2.2.2, g6, g7, g8, g9, g10, g11, g12, g13, g14, g15, g16, g17, g18, g19, g20])), (a1, .inl (cB21, 900, .inl m_s.1))]) s.heap := hP
  have hl := lv_entry ([.ref a0]) (n := 1) (Nat.le_of_ble_eq_true rfl)
  rw [lg_entry_eq]
  generalize (lg_sl ([.ref a0]) ++ List.replicate (1 - (lg_sl ([.ref a0])).length) Slot.unset).toArray = ls at hl ⊢
  have hl : lv_has ls 1 [(0, .ref a0)] := hl
  refine W_q (fun QQ hQQ => ?_)
  rw [f_X12_fault] at h
  refine lv_aload_n hx hb dX12_fault_0 rfl (lv_at hl 0 rfl) ?_
  refine lv_iconst (v := 0) hx hb dX12_fault_1 (by decide) ?_
  refine va_put (D := (dC, dI)) (ci := 9) (v := .int 0) (ty := .int) (C := RX12) (T := TX12) (N := 30) hx hb hts ifX12_fault_X12 tyX12 tyX12_ok nmX12 hown hK hP hD hS 0 rfl rfl 0 (by decide) (hts (.fieldLink RX12 36 "HookPierModel" "thrown" "I") (List.mem_of_getElem? (i := 1) rfl)) (fun _ h9 => h9) rfl (by decide +kernel) rfl rfl (Nat.le_of_ble_eq_true rfl) dX12_fault_2 (fun H locs hP hD hS => ?_)
  have hP : va_P (dC, dI) vwCl ([(a0, .inr (9, [.int 0, .int m_t.2.1, .int m_t.2.2, g4, g5, .ref a1, .int m_s.2.1, .int m_s.2.2.1, .int m_s.2.2.2.1, .int m_s.2.2.2.2.1, .int m_s.2.2.2.2.2.1, .int m_s.2.2.2.2.2.2.1, .int m_s.2.2.2.2.2.2.2.1, .int m_s.2.2.2.2.2.2.2.2.1, .long m_s.2.2.2.2.2.2.2.2.2, g6, g7, g8, g9, g10, g11, g12, g13, g14, g15, g16, g17, g18, g19, g20])), (a1, .inl (cB21, 900, .inl m_s.1))]) H := hP
  have hD : va_D A ([(a0, .inr (9, [.int 0, .int m_t.2.1, .int m_t.2.2, g4, g5, .ref a1, .int m_s.2.1, .int m_s.2.2.1, .int m_s.2.2.2.1, .int m_s.2.2.2.2.1, .int m_s.2.2.2.2.2.1, .int m_s.2.2.2.2.2.2.1, .int m_s.2.2.2.2.2.2.2.1, .int m_s.2.2.2.2.2.2.2.2.1, .long m_s.2.2.2.2.2.2.2.2.2, g6, g7, g8, g9, g10, g11, g12, g13, g14, g15, g16, g17, g18, g19, g20])), (a1, .inl (cB21, 900, .inl m_s.1))]) := hD
  refine lv_aload_n hx hb dX12_fault_5 rfl (lv_at hl 0 rfl) ?_
  refine va_get (D := (dC, dI)) (ci := 9) (v := .int m_s.2.2.2.2.2.2.2.1) (C := RX12) (T := TX12) (N := 30) hx hb hts ifX12_fault_X12 hown hK hP 0 rfl rfl 12 (by decide) (hts (.fieldLink RX12 94 "HookPierModel" "fault" "I") (List.mem_of_getElem? (i := 2) rfl)) (fun _ h9 => h9) rfl dX12_fault_6 ?_
  obtain rfl := h
  have hP9 := hP.sub (ws' := ([(a0, .inr (9, [.int 0, .int m_t.2.1, .int m_t.2.2, g4, g5, .ref a1, .int m_s.2.1, .int m_s.2.2.1, .int m_s.2.2.2.1, .int m_s.2.2.2.2.1, .int m_s.2.2.2.2.2.1, .int m_s.2.2.2.2.2.2.1, .int m_s.2.2.2.2.2.2.2.1, .int m_s.2.2.2.2.2.2.2.2.1, .long m_s.2.2.2.2.2.2.2.2.2, g6, g7, g8, g9, g10, g11, g12, g13, g14, g15, g16, g17, g18, g19, g20])), (a1, .inl (cB21, 900, .inl m_s.1))])) [0, 1] rfl
  have hD9 := hD.sub (ws' := ([(a0, .inr (9, [.int 0, .int m_t.2.1, .int m_t.2.2, g4, g5, .ref a1, .int m_s.2.1, .int m_s.2.2.1, .int m_s.2.2.2.1, .int m_s.2.2.2.2.1, .int m_s.2.2.2.2.2.1, .int m_s.2.2.2.2.2.2.1, .int m_s.2.2.2.2.2.2.2.1, .int m_s.2.2.2.2.2.2.2.2.1, .long m_s.2.2.2.2.2.2.2.2.2, g6, g7, g8, g9, g10, g11, g12, g13, g14, g15, g16, g17, g18, g19, g20])), (a1, .inl (cB21, 900, .inl m_s.1))])) [0, 1] (by decide) rfl
  have hK9 := hK.sub (tys' := []) [] rfl
  rw [hQQ]
  exact W.iret (v := m_s.2.2.2.2.2.2.2.1) hx hb hr (fun t ht hW => ⟨⟨m_s.2.2.2.2.2.2.2.1, (), rfl, rfl, by rw [ht]; exact hP9, va_K.moved hW.alike hK9, hD9⟩, hS.F ht⟩) hS.2.2 dX12_fault_9
theorem dX12_where_0 : decode cX12_where 0 = .ok (.aload_n 0, 1) := by decide +kernel
theorem dX12_where_1 : decode cX12_where 1 = .ok (.iconst 0, 1) := by decide +kernel
theorem dX12_where_2 : decode cX12_where 2 = .ok (.putfield 36, 3) := by decide +kernel
theorem dX12_where_5 : decode cX12_where 5 = .ok (.aload_n 0, 1) := by decide +kernel
theorem dX12_where_6 : decode cX12_where 6 = .ok (.getfield 9, 3) := by decide +kernel
theorem dX12_where_9 : decode cX12_where 9 = .ok (.ireturn, 1) := by decide +kernel
def vfX12_where : List Cond := List.cons (.code yX12_where cX12_where 1 (some .int)) (apW [.fieldLink RX12 36 "HookPierModel" "thrown" "I", .fieldLink RX12 9 "HookPierModel" "where" "I"] (wsX120))
theorem ifX12_where_X12 : ∀ w ∈ wsX120, w ∈ vfX12_where := fun _ h => (List.mem_cons_of_mem _ (List.mem_append_right _ h))
theorem qfX12_where : Good vfX12_where := gd_cons (by decide +kernel) (gd_app (gd_dec (by decide +kernel) : Good [.fieldLink RX12 36 "HookPierModel" "thrown" "I", .fieldLink RX12 9 "HookPierModel" "where" "I"]) qsX12)
set_option maxHeartbeats 2000000 in
set_option maxRecDepth 100000 in
theorem kfX12_where (l : Launch) (dC : Nat → ClassId) (dI : Nat → Nat → Nat) (a0 : Nat) (m_t : TX12_t) (g2 : Value) (g3 : Value) (g4 : Value) (g5 : Value) (g6 : Value) (g7 : Value) (g8 : Value) (g9 : Value) (g10 : Value) (g11 : Value) (g12 : Value) (g13 : Value) (g14 : Value) (g15 : Value) (g16 : Value) (g17 : Value) (g18 : Value) (g19 : Value) (g20 : Value) (g21 : Value) (g22 : Value) (g23 : Value) (g24 : Value) (g25 : Value) (g26 : Value) (g27 : Value) (g28 : Value) (sz : Nat) (out : (Int32 × TX12_t)) (h : f_X12_where m_t = out) : Met l yX12_where vfX12_where ({ frames := 0, cells := 0, slots := 0, locals := 0 }) (PC (dC, dI) [.ref a0] sz ([(a0, .inr (9, [.int m_t.1, .int m_t.2.1, .int m_t.2.2, g2, g3, g4, g5, g6, g7, g8, g9, g10, g11, g12, g13, g14, g15, g16, g17, g18, g19, g20, g21, g22, g23, g24, g25, g26, g27, g28]))]) ([])) (va_Qi (S := Unit) (fun (r : Int32) _ => r = out.1) (fun _ t => BC (dC, dI) (va_A ([(a0, .inr (9, [.int m_t.1, .int m_t.2.1, .int m_t.2.2, g2, g3, g4, g5, g6, g7, g8, g9, g10, g11, g12, g13, g14, g15, g16, g17, g18, g19, g20, g21, g22, g23, g24, g25, g26, g27, g28]))]) sz) ([(a0, .inr (9, [.int out.2.1, .int out.2.2.1, .int out.2.2.2, g2, g3, g4, g5, g6, g7, g8, g9, g10, g11, g12, g13, g14, g15, g16, g17, g18, g19, g20, g21, g22, g23, g24, g25, g26, g27, g28]))]) [] t) (va_A ([(a0, .inr (9, [.int m_t.1, .int m_t.2.1, .int m_t.2.2, g2, g3, g4, g5, g6, g7, g8, g9, g10, g11, g12, g13, g14, g15, g16, g17, g18, g19, g20, g21, g22, g23, g24, g25, g26, g27, g28]))]) sz)) 0 0 (va_A ([(a0, .inr (9, [.int m_t.1, .int m_t.2.1, .int m_t.2.2, g2, g3, g4, g5, g6, g7, g8, g9, g10, g11, g12, g13, g14, g15, g16, g17, g18, g19, g20, g21, g22, g23, g24, g25, g26, g27, g28]))]) sz) := by
  refine Met.ofW (cc := cX12_where) (maxL := 1) (ret := (some .int)) (by decide) rfl ?_
  intro p e s m args below meth c s₁ B0 hml hv
  obtain ⟨rfl, hsz, hP, hK, hD0, hN⟩ := hv
  have hx := B0.exec
  have hb := B0.bytes
  have hr := B0.returns
  have hts := atoms_spec (ws := vfX12_where) B0.pre
  have hown : s.vm.findClass RX12 = some m.cls := findClass_of_methodNamed B0.named
  have hlocks := B0.notSynchronized
  subst hsz
  have hD := hD0.self (sz := s.heap.size)
  generalize hAe : va_A ([(a0, .inr (9, [.int m_t.1, .int m_t.2.1, .int m_t.2.2, g2, g3, g4, g5, g6, g7, g8, g9, g10, g11, g12, g13, g14, g15, g16, g17, g18, g19, g20, g21, g22, g23, g24, g25, g26, g27, g28]))]) s.heap.size = A at hD ⊢
  have hA : ∀ q : Nat, s.heap.size ≤ q → A q := fun q h => by rw [← hAe]; exact Or.inr h
  have hS : va_S A s.heap s.heap [] := va_S.rf
  have hP : va_P (dC, dI) vwCl ([(a0, .inr (9, [.int m_t.1, .int m_t.2.1, .int m_t.2.2, g2, g3, g4, g5, g6, g7, g8, g9, g10, g11, g12, g13, g14, g15, g16, g17, g18, g19, g20, g21, g22, g23, g24, g25, g26, g27, g28]))]) s.heap := hP
  have hl := lv_entry ([.ref a0]) (n := 1) (Nat.le_of_ble_eq_true rfl)
  rw [lg_entry_eq]
  generalize (lg_sl ([.ref a0]) ++ List.replicate (1 - (lg_sl ([.ref a0])).length) Slot.unset).toArray = ls at hl ⊢
  have hl : lv_has ls 1 [(0, .ref a0)] := hl
  refine W_q (fun QQ hQQ => ?_)
  rw [f_X12_where] at h
  refine lv_aload_n hx hb dX12_where_0 rfl (lv_at hl 0 rfl) ?_
  refine lv_iconst (v := 0) hx hb dX12_where_1 (by decide) ?_
  refine va_put (D := (dC, dI)) (ci := 9) (v := .int 0) (ty := .int) (C := RX12) (T := TX12) (N := 30) hx hb hts ifX12_where_X12 tyX12 tyX12_ok nmX12 hown hK hP hD hS 0 rfl rfl 0 (by decide) (hts (.fieldLink RX12 36 "HookPierModel" "thrown" "I") (List.mem_of_getElem? (i := 1) rfl)) (fun _ h9 => h9) rfl (by decide +kernel) rfl rfl (Nat.le_of_ble_eq_true rfl) dX12_where_2 (fun H locs hP hD hS => ?_)
  have hP : va_P (dC, dI) vwCl ([(a0, .inr (9, [.int 0, .int m_t.2.1, .int m_t.2.2, g2, g3, g4, g5, g6, g7, g8, g9, g10, g11, g12, g13, g14, g15, g16, g17, g18, g19, g20, g21, g22, g23, g24, g25, g26, g27, g28]))]) H := hP
  have hD : va_D A ([(a0, .inr (9, [.int 0, .int m_t.2.1, .int m_t.2.2, g2, g3, g4, g5, g6, g7, g8, g9, g10, g11, g12, g13, g14, g15, g16, g17, g18, g19, g20, g21, g22, g23, g24, g25, g26, g27, g28]))]) := hD
  refine lv_aload_n hx hb dX12_where_5 rfl (lv_at hl 0 rfl) ?_
  refine va_get (D := (dC, dI)) (ci := 9) (v := .int m_t.2.2) (C := RX12) (T := TX12) (N := 30) hx hb hts ifX12_where_X12 hown hK hP 0 rfl rfl 2 (by decide) (hts (.fieldLink RX12 9 "HookPierModel" "where" "I") (List.mem_of_getElem? (i := 2) rfl)) (fun _ h9 => h9) rfl dX12_where_6 ?_
  obtain rfl := h
  have hP9 := hP.sub (ws' := ([(a0, .inr (9, [.int 0, .int m_t.2.1, .int m_t.2.2, g2, g3, g4, g5, g6, g7, g8, g9, g10, g11, g12, g13, g14, g15, g16, g17, g18, g19, g20, g21, g22, g23, g24, g25, g26, g27, g28]))])) [0] rfl
  have hD9 := hD.sub (ws' := ([(a0, .inr (9, [.int 0, .int m_t.2.1, .int m_t.2.2, g2, g3, g4, g5, g6, g7, g8, g9, g10, g11, g12, g13, g14, g15, g16, g17, g18, g19, g20, g21, g22, g23, g24, g25, g26, g27, g28]))])) [0] (by decide) rfl
  have hK9 := hK.sub (tys' := []) [] rfl
  rw [hQQ]
  exact W.iret (v := m_t.2.2) hx hb hr (fun t ht hW => ⟨⟨m_t.2.2, (), rfl, rfl, by rw [ht]; exact hP9, va_K.moved hW.alike hK9, hD9⟩, hS.F ht⟩) hS.2.2 dX12_where_9
theorem dX12_size_0 : decode cX12_size 0 = .ok (.aload_n 0, 1) := by decide +kernel
theorem dX12_size_1 : decode cX12_size 1 = .ok (.iconst 0, 1) := by decide +kernel
theorem dX12_size_100 : decode cX12_size 100 = .ok (.aload_n 0, 1) := by decide +kernel
theorem dX12_size_101 : decode cX12_size 101 = .ok (.getfield 299, 3) := by decide +kernel
theorem dX12_size_104 : decode cX12_size 104 = .ok (.getfield 207, 3) := by decide +kernel
theorem dX12_size_107 : decode cX12_size 107 = .ok (.ireturn, 1) := by decide +kernel
theorem dX12_size_108 : decode cX12_size 108 = .ok (.aload_n 0, 1) := by decide +kernel
theorem dX12_size_109 : decode cX12_size 109 = .ok (.getfield 299, 3) := by decide +kernel
theorem dX12_size_11 : decode cX12_size 11 = .ok (.aload_n 0, 1) := by decide +kernel
theorem dX12_size_112 : decode cX12_size 112 = .ok (.getfield 175, 3) := by decide +kernel
theorem dX12_size_115 : decode cX12_size 115 = .ok (.ireturn, 1) := by decide +kernel
theorem dX12_size_116 : decode cX12_size 116 = .ok (.aload_n 0, 1) := by decide +kernel
theorem dX12_size_117 : decode cX12_size 117 = .ok (.getfield 299, 3) := by decide +kernel
theorem dX12_size_12 : decode cX12_size 12 = .ok (.getfield 292, 3) := by decide +kernel
theorem dX12_size_120 : decode cX12_size 120 = .ok (.getfield 224, 3) := by decide +kernel
theorem dX12_size_123 : decode cX12_size 123 = .ok (.ireturn, 1) := by decide +kernel
theorem dX12_size_124 : decode cX12_size 124 = .ok (.aload_n 0, 1) := by decide +kernel
theorem dX12_size_125 : decode cX12_size 125 = .ok (.getfield 299, 3) := by decide +kernel
theorem dX12_size_128 : decode cX12_size 128 = .ok (.getfield 231, 3) := by decide +kernel
theorem dX12_size_131 : decode cX12_size 131 = .ok (.ireturn, 1) := by decide +kernel
theorem dX12_size_132 : decode cX12_size 132 = .ok (.aload_n 0, 1) := by decide +kernel
theorem dX12_size_133 : decode cX12_size 133 = .ok (.getfield 299, 3) := by decide +kernel
theorem dX12_size_136 : decode cX12_size 136 = .ok (.getfield 271, 3) := by decide +kernel
theorem dX12_size_139 : decode cX12_size 139 = .ok (.ireturn, 1) := by decide +kernel
theorem dX12_size_140 : decode cX12_size 140 = .ok (.aload_n 0, 1) := by decide +kernel
theorem dX12_size_141 : decode cX12_size 141 = .ok (.getfield 17, 3) := by decide +kernel
theorem dX12_size_144 : decode cX12_size 144 = .ok (.bipush 23, 2) := by decide +kernel
theorem dX12_size_146 : decode cX12_size 146 = .ok (.iaload, 1) := by decide +kernel
theorem dX12_size_147 : decode cX12_size 147 = .ok (.ireturn, 1) := by decide +kernel
theorem dX12_size_148 : decode cX12_size 148 = .ok (.aload_n 0, 1) := by decide +kernel
theorem dX12_size_149 : decode cX12_size 149 = .ok (.getfield 17, 3) := by decide +kernel
theorem dX12_size_15 : decode cX12_size 15 = .ok (.ireturn, 1) := by decide +kernel
theorem dX12_size_152 : decode cX12_size 152 = .ok (.bipush 24, 2) := by decide +kernel
theorem dX12_size_154 : decode cX12_size 154 = .ok (.iaload, 1) := by decide +kernel
theorem dX12_size_155 : decode cX12_size 155 = .ok (.ireturn, 1) := by decide +kernel
theorem dX12_size_156 : decode cX12_size 156 = .ok (.aload_n 0, 1) := by decide +kernel
theorem dX12_size_157 : decode cX12_size 157 = .ok (.getfield 17, 3) := by decide +kernel
theorem dX12_size_16 : decode cX12_size 16 = .ok (.iload_n 1, 1) := by decide +kernel
theorem dX12_size_160 : decode cX12_size 160 = .ok (.bipush 25, 2) := by decide +kernel
theorem dX12_size_162 : decode cX12_size 162 = .ok (.iaload, 1) := by decide +kernel
theorem dX12_size_163 : decode cX12_size 163 = .ok (.ireturn, 1) := by decide +kernel
theorem dX12_size_164 : decode cX12_size 164 = .ok (.aload_n 0, 1) := by decide +kernel
theorem dX12_size_165 : decode cX12_size 165 = .ok (.getfield 301, 3) := by decide +kernel
theorem dX12_size_168 : decode cX12_size 168 = .ok (.ireturn, 1) := by decide +kernel
theorem dX12_size_169 : decode cX12_size 169 = .ok (.aload_n 0, 1) := by decide +kernel
theorem dX12_size_17 : decode cX12_size 17 = .ok (.iconst 0, 1) := by decide +kernel
theorem dX12_size_170 : decode cX12_size 170 = .ok (.getfield 304, 3) := by decide +kernel
theorem dX12_size_173 : decode cX12_size 173 = .ok (.ireturn, 1) := by decide +kernel
theorem dX12_size_18 : decode cX12_size 18 = .ok (.bipush 10, 2) := by decide +kernel
theorem dX12_size_2 : decode cX12_size 2 = .ok (.putfield 36, 3) := by decide +kernel
theorem dX12_size_20 : decode cX12_size 20 = .ok (.invokestatic 115, 3) := by decide +kernel
theorem dX12_size_23 : decode cX12_size 23 = .ok (.ifCond .ne 5, 3) := by decide +kernel
theorem dX12_size_26 : decode cX12_size 26 = .ok (.iconst (-1), 1) := by decide +kernel
theorem dX12_size_27 : decode cX12_size 27 = .ok (.ireturn, 1) := by decide +kernel
theorem dX12_size_28 : decode cX12_size 28 = .ok (.aload_n 0, 1) := by decide +kernel
theorem dX12_size_29 : decode cX12_size 29 = .ok (.getfield 299, 3) := by decide +kernel
theorem dX12_size_32 : decode cX12_size 32 = .ok (.ifnonnull 5, 3) := by decide +kernel
theorem dX12_size_37 : decode cX12_size 37 = .ok (.iload_n 1, 1) := by decide +kernel
theorem dX12_size_38 : decode cX12_size 38 = .ok (.tableswitch 131 0 9 #[54, 62, 70, 78, 86, 94, 102, 110, 118, 126], 54) := by decide +kernel
theorem dX12_size_5 : decode cX12_size 5 = .ok (.iload_n 1, 1) := by decide +kernel
theorem dX12_size_6 : decode cX12_size 6 = .ok (.bipush 11, 2) := by decide +kernel
theorem dX12_size_8 : decode cX12_size 8 = .ok (.if_icmp .ne 8, 3) := by decide +kernel
theorem dX12_size_92 : decode cX12_size 92 = .ok (.aload_n 0, 1) := by decide +kernel
theorem dX12_size_93 : decode cX12_size 93 = .ok (.getfield 299, 3) := by decide +kernel
theorem dX12_size_96 : decode cX12_size 96 = .ok (.getfield 143, 3) := by decide +kernel
theorem dX12_size_99 : decode cX12_size 99 = .ok (.ireturn, 1) := by decide +kernel
def vfX12_size : List Cond := List.cons (.code yX12_size cX12_size 2 (some .int)) (apW [.fieldLink RX12 36 "HookPierModel" "thrown" "I", .methodLink RX12 115 yX12_in, .static yX12_in, .initialized RX12, .fieldLink RX12 299 "HookPierModel" "pier" "LHookPierModel$Pier;", .fieldLink RX12 17 "HookPierModel" "v" "[I", .fieldLink RX12 301 "HookPierModel" "acts" "I", .fieldLink RX12 304 "HookPierModel" "marks" "I", .fieldLink RX12 292 "HookPierModel" "taped" "I"] (apW wsX120 (apW wsX110 (vfX12_in))))
theorem ifX12_size_X12 : ∀ w ∈ wsX120, w ∈ vfX12_size := fun _ h => (List.mem_cons_of_mem _ (List.mem_append_right _ (List.mem_append_left _ h)))
theorem ifX12_size_X11 : ∀ w ∈ wsX110, w ∈ vfX12_size := fun _ h => (List.mem_cons_of_mem _ (List.mem_append_right _ (List.mem_append_right _ (List.mem_append_left _ h))))
theorem qfX12_size : Good vfX12_size := gd_cons (by decide +kernel) (gd_app (gd_dec (by decide +kernel) : Good [.fieldLink RX12 36 "HookPierModel" "thrown" "I", .methodLink RX12 115 yX12_in, .static yX12_in, .initialized RX12, .fieldLink RX12 299 "HookPierModel" "pier" "LHookPierModel$Pier;", .fieldLink RX12 17 "HookPierModel" "v" "[I", .fieldLink RX12 301 "HookPierModel" "acts" "I", .fieldLink RX12 304 "HookPierModel" "marks" "I", .fieldLink RX12 292 "HookPierModel" "taped" "I"]) (gd_app qsX12 (gd_app qsX11 qfX12_in)))
theorem gfX12_size_0 : GoodIn vfX12_size (va_wsS RX12 115 yX12_in vfX12_in) := goodIn_app (goodIn_r [.methodLink RX12 115 yX12_in, .static yX12_in, .initialized RX12] [2, 3, 4] rfl (by decide +kernel)) (goodIn_m (fun _ h => (List.mem_cons_of_mem _ (List.mem_append_right _ (List.mem_append_right _ (List.mem_append_right _ h))))) qfX12_in)
set_option maxHeartbeats 2000000 in
set_option maxRecDepth 100000 in
theorem kfX12_size (l : Launch) (dC : Nat → ClassId) (dI : Nat → Nat → Nat) (a0 : Nat) (k1 : Int32) (a2 : Nat) (a3 : Nat) (a4 : Nat) (a5 : Nat) (a6 : Nat) (uq : Nat → Nat) (kq : Nat → ClassId) (m_t : TX12_t) (m_s : TX12_s) (m_v : TX12_v) (m_h : TX12_h) (g13 : Value) (g14 : Value) (g15 : Value) (g16 : Value) (g17 : Value) (g18 : Value) (g19 : Value) (g20 : Value) (g21 : Value) (g22 : Value) (g23 : Value) (q_q : TX11_q) (cB25 : ClassId) (cB26 : ClassId) (cB27 : ClassId) (cB28 : ClassId) (sz : Nat) (out : (Int32 × TX12_t)) (h : f_X12_size k1 m_t m_s m_v m_h q_q = out) : Met l yX12_size vfX12_size ({ frames := 1, cells := 0, slots := 0, locals := 22 }) (PC (dC, dI) [.ref a0, .int k1] sz ((a0, .inr (9, [.int m_t.1, .int m_t.2.1, .int m_t.2.2, .ref a2, g13, .ref a3, .int m_s.2.1, .int m_s.2.2.1, .int m_s.2.2.2.1, .int m_s.2.2.2.2.1, .int m_s.2.2.2.2.2.1, .int m_s.2.2.2.2.2.2.1, .int m_s.2.2.2.2.2.2.2.1, .int m_s.2.2.2.2.2.2.2.2.1, .long m_s.2.2.2.2.2.2.2.2.2, .ref a4, g14, .ref a5, .ref a6, .int m_h.2.2.1, .int m_h.2.2.2, g15, g16, g17, g18, g19, g20, g21, g22, g23])) :: bX11 a2 uq kq q_q ([(a3, .inl (cB25, 900, .inl m_s.1)), (a4, .inl (cB26, 26, .inl m_v)), (a5, .inl (cB27, 416, .inl m_h.1)), (a6, .inl (cB28, 78, .inl m_h.2.1))])) (tX11 kq ((cB25, .byte) :: (cB26, .int) :: (cB27, .int) :: (cB28, .int) :: []))) (va_Qi (S := Unit) (fun (r : Int32) _ => r = out.1) (fun _ t => BC (dC, dI) (va_A ((a0, .inr (9, [.int m_t.1, .int m_t.2.1, .int m_t.2.2, .ref a2, g13, .ref a3, .int m_s.2.1, .int m_s.2.2.1, .int m_s.2.2.2.1, .int m_s.2.2.2.2.1, .int m_s.2.2.2.2.2.1, .int m_s.2.2.2.2.2.2.1, .int m_s.2.2.2.2.2.2.2.1, .int m_s.2.2.2.2.2.2.2.2.1, .long m_s.2.2.2.2.2.2.2.2.2, .ref a4, g14, .ref a5, .ref a6, .int m_h.2.2.1, .int m_h.2.2.2, g15, g16, g17, g18, g19, g20, g21, g22, g23])) :: bX11 a2 uq kq q_q ([(a3, .inl (cB25, 900, .inl m_s.1)), (a4, .inl (cB26, 26, .inl m_v)), (a5, .inl (cB27, 416, .inl m_h.1)), (a6, .inl (cB28, 78, .inl m_h.2.1))])) sz) ((a0, .inr (9, [.int out.2.1, .int out.2.2.1, .int out.2.2.2, .ref a2, g13, .ref a3, .int m_s.2.1, .int m_s.2.2.1, .int m_s.2.2.2.1, .int m_s.2.2.2.2.1, .int m_s.2.2.2.2.2.1, .int m_s.2.2.2.2.2.2.1, .int m_s.2.2.2.2.2.2.2.1, .int m_s.2.2.2.2.2.2.2.2.1, .long m_s.2.2.2.2.2.2.2.2.2, .ref a4, g14, .ref a5, .ref a6, .int m_h.2.2.1, .int m_h.2.2.2, g15, g16, g17, g18, g19, g20, g21, g22, g23])) :: bX11 a2 uq kq q_q ([(a3, .inl (cB25, 900, .inl m_s.1)), (a4, .inl (cB26, 26, .inl m_v)), (a5, .inl (cB27, 416, .inl m_h.1)), (a6, .inl (cB28, 78, .inl m_h.2.1))])) [] t) (va_A ((a0, .inr (9, [.int m_t.1, .int m_t.2.1, .int m_t.2.2, .ref a2, g13, .ref a3, .int m_s.2.1, .int m_s.2.2.1, .int m_s.2.2.2.1, .int m_s.2.2.2.2.1, .int m_s.2.2.2.2.2.1, .int m_s.2.2.2.2.2.2.1, .int m_s.2.2.2.2.2.2.2.1, .int m_s.2.2.2.2.2.2.2.2.1, .long m_s.2.2.2.2.2.2.2.2.2, .ref a4, g14, .ref a5, .ref a6, .int m_h.2.2.1, .int m_h.2.2.2, g15, g16, g17, g18, g19, g20, g21, g22, g23])) :: bX11 a2 uq kq q_q ([(a3, .inl (cB25, 900, .inl m_s.1)), (a4, .inl (cB26, 26, .inl m_v)), (a5, .inl (cB27, 416, .inl m_h.1)), (a6, .inl (cB28, 78, .inl m_h.2.1))])) sz)) 0 0 (va_A ((a0, .inr (9, [.int m_t.1, .int m_t.2.1, .int m_t.2.2, .ref a2, g13, .ref a3, .int m_s.2.1, .int m_s.2.2.1, .int m_s.2.2.2.1, .int m_s.2.2.2.2.1, .int m_s.2.2.2.2.2.1, .int m_s.2.2.2.2.2.2.1, .int m_s.2.2.2.2.2.2.2.1, .int m_s.2.2.2.2.2.2.2.2.1, .long m_s.2.2.2.2.2.2.2.2.2, .ref a4, g14, .ref a5, .ref a6, .int m_h.2.2.1, .int m_h.2.2.2, g15, g16, g17, g18, g19, g20, g21, g22, g23])) :: bX11 a2 uq kq q_q ([(a3, .inl (cB25, 900, .inl m_s.1)), (a4, .inl (cB26, 26, .inl m_v)), (a5, .inl (cB27, 416, .inl m_h.1)), (a6, .inl (cB28, 78, .inl m_h.2.1))])) sz) := by
  refine Met.ofW (cc := cX12_size) (maxL := 2) (ret := (some .int)) (by decide) rfl ?_
  intro p e s m args below meth c s₁ B0 hml hv
  obtain ⟨rfl, hsz, hP, hK, hD0, hN⟩ := hv
  have hx := B0.exec
  have hb := B0.bytes
  have hr := B0.returns
  have hts := atoms_spec (ws := vfX12_size) B0.pre
  have hown : s.vm.findClass RX12 = some m.cls := findClass_of_methodNamed B0.named
  have hlocks := B0.notSynchronized
  subst hsz
  have hD := hD0.self (sz := s.heap.size)
  generalize hAe : va_A ((a0, .inr (9, [.int m_t.1, .int m_t.2.1, .int m_t.2.2, .ref a2, g13, .ref a3, .int m_s.2.1, .int m_s.2.2.1, .int m_s.2.2.2.1, .int m_s.2.2.2.2.1, .int m_s.2.2.2.2.2.1, .int m_s.2.2.2.2.2.2.1, .int m_s.2.2.2.2.2.2.2.1, .int m_s.2.2.2.2.2.2.2.2.1, .long m_s.2.2.2.2.2.2.2.2.2, .ref a4, g14, .ref a5, .ref a6, .int m_h.2.2.1, .int m_h.2.2.2, g15, g16, g17, g18, g19, g20, g21, g22, g23])) :: bX11 a2 uq kq q_q ([(a3, .inl (cB25, 900, .inl m_s.1)), (a4, .inl (cB26, 26, .inl m_v)), (a5, .inl (cB27, 416, .inl m_h.1)), (a6, .inl (cB28, 78, .inl m_h.2.1))])) s.heap.size = A at hD ⊢
  have hA : ∀ q : Nat, s.heap.size ≤ q → A q := fun q h => by rw [← hAe]; exact Or.inr h
  have hS : va_S A s.heap s.heap [] := va_S.rf
  have hP : va_P (dC, dI) vwCl ((a0, .inr (9, [.int m_t.1, .int m_t.2.1, .int m_t.2.2, .ref a2, g13, .ref a3, .int m_s.2.1, .int m_s.2.2.1, .int m_s.2.2.2.1, .int m_s.2.2.2.2.1, .int m_s.2.2.2.2.2.1, .int m_s.2.2.2.2.2.2.1, .int m_s.2.2.2.2.2.2.2.1, .int m_s.2.2.2.2.2.2.2.2.1, .long m_s.2.2.2.2.2.2.2.2.2, .ref a4, g14, .ref a5, .ref a6, .int m_h.2.2.1, .int m_h.2.2.2, g15, g16, g17, g18, g19, g20, g21, g22, g23])) :: bX11 a2 uq kq q_q ([(a3, .inl (cB25, 900, .inl m_s.1)), (a4, .inl (cB26, 26, .inl m_v)), (a5, .inl (cB27, 416, .inl m_h.1)), (a6, .inl (cB28, 78, .inl m_h.2.1))])) s.heap := hP
  have hl := lv_entry ([.ref a0, .int k1]) (n := 2) (Nat.le_of_ble_eq_true rfl)
  rw [lg_entry_eq]
  generalize (lg_sl ([.ref a0, .int k1]) ++ List.replicate (2 - (lg_sl ([.ref a0, .int k1])).length) Slot.unset).toArray = ls at hl ⊢
  have hl : lv_has ls 2 [(0, .ref a0), (1, .int k1)] := hl
  refine W_q (fun QQ hQQ => ?_)
  rw [f_X12_size] at h
  refine lv_aload_n hx hb dX12_size_0 rfl (lv_at hl 0 rfl) ?_
  refine lv_iconst (v := 0) hx hb dX12_size_1 (by decide) ?_
  refine va_put (D := (dC, dI)) (ci := 9) (v := .int 0) (ty := .int) (C := RX12) (T := TX12) (N := 30) hx hb hts ifX12_size_X12 tyX12 tyX12_ok nmX12 hown hK hP hD hS 0 rfl rfl 0 (by decide) (hts (.fieldLink RX12 36 "HookPierModel" "thrown" "I") (List.mem_of_getElem? (i := 1) rfl)) (fun _ h9 => h9) rfl (by decide +kernel) rfl rfl (Nat.le_of_ble_eq_true rfl) dX12_size_2 (fun H locs hP hD hS => ?_)
  have hP : va_P (dC, dI) vwCl ((a0, .inr (9, [.int 0, .int m_t.2.1, .int m_t.2.2, .ref a2, g13, .ref a3, .int m_s.2.1, .int m_s.2.2.1, .int m_s.2.2.2.1, .int m_s.2.2.2.2.1, .int m_s.2.2.2.2.2.1, .int m_s.2.2.2.2.2.2.1, .int m_s.2.2.2.2.2.2.2.1, .int m_s.2.2.2.2.2.2.2.2.1, .long m_s.2.2.2.2.2.2.2.2.2, .ref a4, g14, .ref a5, .ref a6, .int m_h.2.2.1, .int m_h.2.2.2, g15, g16, g17, g18, g19, g20, g21, g22, g23])) :: bX11 a2 uq kq q_q ([(a3, .inl (cB25, 900, .inl m_s.1)), (a4, .inl (cB26, 26, .inl m_v)), (a5, .inl (cB27, 416, .inl m_h.1)), (a6, .inl (cB28, 78, .inl m_h.2.1))])) H := hP
  have hD : va_D A ((a0, .inr (9, [.int 0, .int m_t.2.1, .int m_t.2.2, .ref a2, g13, .ref a3, .int m_s.2.1, .int m_s.2.2.1, .int m_s.2.2.2.1, .int m_s.2.2.2.2.1, .int m_s.2.2.2.2.2.1, .int m_s.2.2.2.2.2.2.1, .int m_s.2.2.2.2.2.2.2.1, .int m_s.2.2.2.2.2.2.2.2.1, .long m_s.2.2.2.2.2.2.2.2.2, .ref a4, g14, .ref a5, .ref a6, .int m_h.2.2.1, .int m_h.2.2.2, g15, g16, g17, g18, g19, g20, g21, g22, g23])) :: bX11 a2 uq kq q_q ([(a3, .inl (cB25, 900, .inl m_s.1)), (a4, .inl (cB26, 26, .inl m_v)), (a5, .inl (cB27, 416, .inl m_h.1)), (a6, .inl (cB28, 78, .inl m_h.2.1))])) := hD
  refine lv_iload_n hx hb dX12_size_5 rfl (lv_at hl 1 rfl) ?_
  refine lv_bipush (v := 11) hx hb dX12_size_6 (by decide) ?_
  refine lv_icmp_ne (tgt := 16) hx hb dX12_size_8 (by decide) (fun c8 => ?_) (fun c8 => ?_)
  · have h := (if_neg c8).symm.trans h
    refine lv_iload_n hx hb dX12_size_16 rfl (lv_at hl 1 rfl) ?_
    refine lv_iconst (v := 0) hx hb dX12_size_17 (by decide) ?_
    refine lv_bipush (v := 10) hx hb dX12_size_18 (by decide) ?_
    obtain ⟨o20, eo20⟩ : ∃ o, o = f_X12_in k1 (0 : Int32) (10 : Int32) := ⟨_, rfl⟩
    have h := nm_of h o20 eo20
    refine cl_i (wc := []) (wr := ((a0, .inr (9, [.int 0, .int m_t.2.1, .int m_t.2.2, .ref a2, g13, .ref a3, .int m_s.2.1, .int m_s.2.2.1, .int m_s.2.2.2.1, .int m_s.2.2.2.2.1, .int m_s.2.2.2.2.2.1, .int m_s.2.2.2.2.2.2.1, .int m_s.2.2.2.2.2.2.2.1, .int m_s.2.2.2.2.2.2.2.2.1, .long m_s.2.2.2.2.2.2.2.2.2, .ref a4, g14, .ref a5, .ref a6, .int m_h.2.2.1, .int m_h.2.2.2, g15, g16, g17, g18, g19, g20, g21, g22, g23])) :: bX11 a2 uq kq q_q ([(a3, .inl (cB25, 900, .inl m_s.1)), (a4, .inl (cB26, 26, .inl m_v)), (a5, .inl (cB27, 416, .inl m_h.1)), (a6, .inl (cB28, 78, .inl m_h.2.1))]))) (va_runS (As := [.int k1, .int 0, .int 10]) (rest := []) ⟨hx, hb, hml, hown, hts⟩ (kfX12_in l dC dI k1 (0 : Int32) (10 : Int32) H.size o20 eo20.symm) (va_cwS 3 hts gfX12_size_0 rfl rfl rfl (by decide +kernel) ⟨(Nat.le_of_ble_eq_true rfl), (Nat.le_of_ble_eq_true rfl)⟩) (PS (hP.sub (ws' := []) [] rfl) (hK.sub (tys' := ([])) [] rfl) (hD.sub (ws' := []) [] (by decide) rfl) hN) rfl rfl hl.1 rfl (lv_room (Nat.le_of_ble_eq_true rfl)) dX12_size_20 ⟨(Nat.le_of_ble_eq_true rfl), (Nat.le_of_ble_eq_true rfl)⟩) hP hD hK hS hA [] [0, 1, 2, 3, 4, 5, 6, 7, 8, 9, 10, 11, 12, 13, 14, 15, 16, 17, 18, 19] rfl rfl (by decide) (by decide) (fun r20 _ H locs hw hP hD _ hS => ?_)
    obtain ⟨hw, br20⟩ := hw
    obtain rfl := hw.symm
    have hP : va_P (dC, dI) vwCl ((a0, .inr (9, [.int 0, .int m_t.2.1, .int m_t.2.2, .ref a2, g13, .ref a3, .int m_s.2.1, .int m_s.2.2.1, .int m_s.2.2.2.1, .int m_s.2.2.2.2.1, .int m_s.2.2.2.2.2.1, .int m_s.2.2.2.2.2.2.1, .int m_s.2.2.2.2.2.2.2.1, .int m_s.2.2.2.2.2.2.2.2.1, .long m_s.2.2.2.2.2.2.2.2.2, .ref a4, g14, .ref a5, .ref a6, .int m_h.2.2.1, .int m_h.2.2.2, g15, g16, g17, g18, g19, g20, g21, g22, g23])) :: bX11 a2 uq kq q_q ([(a3, .inl (cB25, 900, .inl m_s.1)), (a4, .inl (cB26, 26, .inl m_v)), (a5, .inl (cB27, 416, .inl m_h.1)), (a6, .inl (cB28, 78, .inl m_h.2.1))])) H := hP
    have hD : va_D A ((a0, .inr (9, [.int 0, .int m_t.2.1, .int m_t.2.2, .ref a2, g13, .ref a3, .int m_s.2.1, .int m_s.2.2.1, .int m_s.2.2.2.1, .int m_s.2.2.2.2.1, .int m_s.2.2.2.2.2.1, .int m_s.2.2.2.2.2.2.1, .int m_s.2.2.2.2.2.2.2.1, .int m_s.2.2.2.2.2.2.2.2.1, .long m_s.2.2.2.2.2.2.2.2.2, .ref a4, g14, .ref a5, .ref a6, .int m_h.2.2.1, .int m_h.2.2.2, g15, g16, g17, g18, g19, g20, g21, g22, g23])) :: bX11 a2 uq kq q_q ([(a3, .inl (cB25, 900, .inl m_s.1)), (a4, .inl (cB26, 26, .inl m_v)), (a5, .inl (cB27, 416, .inl m_h.1)), (a6, .inl (cB28, 78, .inl m_h.2.1))])) := hD
    refine lv_if_ne (tgt := 28) hx hb dX12_size_23 (by decide) (fun c23 => ?_) (fun c23 => ?_)
    · have h := (if_neg c23).symm.trans h
      refine lv_aload_n hx hb dX12_size_28 rfl (lv_at hl 0 rfl) ?_
      refine va_get (D := (dC, dI)) (ci := 9) (v := .ref a2) (C := RX12) (T := TX12) (N := 30) hx hb hts ifX12_size_X12 hown hK hP 0 rfl rfl 3 (by decide) (hts (.fieldLink RX12 299 "HookPierModel" "pier" "LHookPierModel$Pier;") (List.mem_of_getElem? (i := 5) rfl)) (fun _ h9 => h9) rfl dX12_size_29 ?_
      refine lv_ifnonnull (tgt := 37) hx hb dX12_size_32 (by decide) ?_
      refine lv_iload_n hx hb dX12_size_37 rfl (lv_at hl 1 rfl) ?_
      by_cases c38_0 : k1 = 0
      · have h := (if_pos c38_0).symm.trans h
        refine lv_tableIn (tgt := 92) hx hb dX12_size_38 (by rw [c38_0] <;> decide) (by rw [c38_0] <;> decide) (by rw [c38_0] <;> rfl) (by decide) ?_
        refine lv_aload_n hx hb dX12_size_92 rfl (lv_at hl 0 rfl) ?_
        refine va_get (D := (dC, dI)) (ci := 9) (v := .ref a2) (C := RX12) (T := TX12) (N := 30) hx hb hts ifX12_size_X12 hown hK hP 0 rfl rfl 3 (by decide) (hts (.fieldLink RX12 299 "HookPierModel" "pier" "LHookPierModel$Pier;") (List.mem_of_getElem? (i := 5) rfl)) (fun _ h9 => h9) rfl dX12_size_93 ?_
        refine va_getN (D := (dC, dI)) (ci := 8) (v := .int q_q.1) (C := RX11) (T := TX11) (N := 24) hx hb hts ifX12_size_X11 hown hK hP 1 rfl rfl 0 (by decide) (va_Nw.use rfl (hN.1 (.fieldLinkNest RX12 143 "HookPierModel$Pier" "spots" "I" "HookPierModel") (List.mem_of_getElem? (i := 22) rfl))) (fun _ h9 => h9) rfl dX12_size_96 ?_
        obtain rfl := h
        have hP9 := hP.sub (ws' := ((a0, .inr (9, [.int 0, .int m_t.2.1, .int m_t.2.2, .ref a2, g13, .ref a3, .int m_s.2.1, .int m_s.2.2.1, .int m_s.2.2.2.1, .int m_s.2.2.2.2.1, .int m_s.2.2.2.2.2.1, .int m_s.2.2.2.2.2.2.1, .int m_s.2.2.2.2.2.2.2.1, .int m_s.2.2.2.2.2.2.2.2.1, .long m_s.2.2.2.2.2.2.2.2.2, .ref a4, g14, .ref a5, .ref a6, .int m_h.2.2.1, .int m_h.2.2.2, g15, g16, g17, g18, g19, g20, g21, g22, g23])) :: bX11 a2 uq kq q_q ([(a3, .inl (cB25, 900, .inl m_s.1)), (a4, .inl (cB26, 26, .inl m_v)), (a5, .inl (cB27, 416, .inl m_h.1)), (a6, .inl (cB28, 78, .inl m_h.2.1))]))) [0, 1, 2, 3, 4, 5, 6, 7, 8, 9, 10, 11, 12, 13, 14, 15, 16, 17, 18, 19] rfl
        have hD9 := hD.sub (ws' := ((a0, .inr (9, [.int 0, .int m_t.2.1, .int m_t.2.2, .ref a2, g13, .ref a3, .int m_s.2.1, .int m_s.2.2.1, .int m_s.2.2.2.1, .int m_s.2.2.2.2.1, .int m_s.2.2.2.2.2.1, .int m_s.2.2.2.2.2.2.1, .int m_s.2.2.2.2.2.2.2.1, .int m_s.2.2.2.2.2.2.2.2.1, .long m_s.2.2.2.2.2.2.2.2.2, .ref a4, g14, .ref a5, .ref a6, .int m_h.2.2.1, .int m_h.2.2.2, g15, g16, g17, g18, g19, g20, g21, g22, g23])) :: bX11 a2 uq kq q_q ([(a3, .inl (cB25, 900, .inl m_s.1)), (a4, .inl (cB26, 26, .inl m_v)), (a5, .inl (cB27, 416, .inl m_h.1)), (a6, .inl (cB28, 78, .inl m_h.2.1))]))) [0, 1, 2, 3, 4, 5, 6, 7, 8, 9, 10, 11, 12, 13, 14, 15, 16, 17, 18, 19] (by decide) rfl
        have hK9 := hK.sub (tys' := []) [] rfl
        rw [hQQ]
        exact W.iret (v := q_q.1) hx hb hr (fun t ht hW => ⟨⟨q_q.1, (), rfl, rfl, by rw [ht]; exact hP9, va_K.moved hW.alike hK9, hD9⟩, hS.F ht⟩) hS.2.2 dX12_size_99
      have h := (if_neg c38_0).symm.trans h
      by_cases c38_1 : k1 = 1
      · have h := (if_pos c38_1).symm.trans h
        refine lv_tableIn (tgt := 100) hx hb dX12_size_38 (by rw [c38_1] <;> decide) (by rw [c38_1] <;> decide) (by rw [c38_1] <;> rfl) (by decide) ?_
        refine lv_aload_n hx hb dX12_size_100 rfl (lv_at hl 0 rfl) ?_
        refine va_get (D := (dC, dI)) (ci := 9) (v := .ref a2) (C := RX12) (T := TX12) (N := 30) hx hb hts ifX12_size_X12 hown hK hP 0 rfl rfl 3 (by decide) (hts (.fieldLink RX12 299 "HookPierModel" "pier" "LHookPierModel$Pier;") (List.mem_of_getElem? (i := 5) rfl)) (fun _ h9 => h9) rfl dX12_size_101 ?_
        refine va_getN (D := (dC, dI)) (ci := 8) (v := .int q_q.2.1) (C := RX11) (T := TX11) (N := 24) hx hb hts ifX12_size_X11 hown hK hP 1 rfl rfl 1 (by decide) (va_Nw.use rfl (hN.1 (.fieldLinkNest RX12 207 "HookPierModel$Pier" "deep" "I" "HookPierModel") (List.mem_of_getElem? (i := 23) rfl))) (fun _ h9 => h9) rfl dX12_size_104 ?_
        obtain rfl := h
        have hP9 := hP.sub (ws' := ((a0, .inr (9, [.int 0, .int m_t.2.1, .int m_t.2.2, .ref a2, g13, .ref a3, .int m_s.2.1, .int m_s.2.2.1, .int m_s.2.2.2.1, .int m_s.2.2.2.2.1, .int m_s.2.2.2.2.2.1, .int m_s.2.2.2.2.2.2.1, .int m_s.2.2.2.2.2.2.2.1, .int m_s.2.2.2.2.2.2.2.2.1, .long m_s.2.2.2.2.2.2.2.2.2, .ref a4, g14, .ref a5, .ref a6, .int m_h.2.2.1, .int m_h.2.2.2, g15, g16, g17, g18, g19, g20, g21, g22, g23])) :: bX11 a2 uq kq q_q ([(a3, .inl (cB25, 900, .inl m_s.1)), (a4, .inl (cB26, 26, .inl m_v)), (a5, .inl (cB27, 416, .inl m_h.1)), (a6, .inl (cB28, 78, .inl m_h.2.1))]))) [0, 1, 2, 3, 4, 5, 6, 7, 8, 9, 10, 11, 12, 13, 14, 15, 16, 17, 18, 19] rfl
        have hD9 := hD.sub (ws' := ((a0, .inr (9, [.int 0, .int m_t.2.1, .int m_t.2.2, .ref a2, g13, .ref a3, .int m_s.2.1, .int m_s.2.2.1, .int m_s.2.2.2.1, .int m_s.2.2.2.2.1, .int m_s.2.2.2.2.2.1, .int m_s.2.2.2.2.2.2.1, .int m_s.2.2.2.2.2.2.2.1, .int m_s.2.2.2.2.2.2.2.2.1, .long m_s.2.2.2.2.2.2.2.2.2, .ref a4, g14, .ref a5, .ref a6, .int m_h.2.2.1, .int m_h.2.2.2, g15, g16, g17, g18, g19, g20, g21, g22, g23])) :: bX11 a2 uq kq q_q ([(a3, .inl (cB25, 900, .inl m_s.1)), (a4, .inl (cB26, 26, .inl m_v)), (a5, .inl (cB27, 416, .inl m_h.1)), (a6, .inl (cB28, 78, .inl m_h.2.1))]))) [0, 1, 2, 3, 4, 5, 6, 7, 8, 9, 10, 11, 12, 13, 14, 15, 16, 17, 18, 19] (by decide) rfl
        have hK9 := hK.sub (tys' := []) [] rfl
        rw [hQQ]
        exact W.iret (v := q_q.2.1) hx hb hr (fun t ht hW => ⟨⟨q_q.2.1, (), rfl, rfl, by rw [ht]; exact hP9, va_K.moved hW.alike hK9, hD9⟩, hS.F ht⟩) hS.2.2 dX12_size_107
      have h := (if_neg c38_1).symm.trans h
      by_cases c38_2 : k1 = 2
      · have h := (if_pos c38_2).symm.trans h
        refine lv_tableIn (tgt := 108) hx hb dX12_size_38 (by rw [c38_2] <;> decide) (by rw [c38_2] <;> decide) (by rw [c38_2] <;> rfl) (by decide) ?_
        refine lv_aload_n hx hb dX12_size_108 rfl (lv_at hl 0 rfl) ?_
        refine va_get (D := (dC, dI)) (ci := 9) (v := .ref a2) (C := RX12) (T := TX12) (N := 30) hx hb hts ifX12_size_X12 hown hK hP 0 rfl rfl 3 (by decide) (hts (.fieldLink RX12 299 "HookPierModel" "pier" "LHookPierModel$Pier;") (List.mem_of_getElem? (i := 5) rfl)) (fun _ h9 => h9) rfl dX12_size_109 ?_
        refine va_getN (D := (dC, dI)) (ci := 8) (v := .int q_q.2.2.2.2.1) (C := RX11) (T := TX11) (N := 24) hx hb hts ifX12_size_X11 hown hK hP 1 rfl rfl 4 (by decide) (va_Nw.use rfl (hN.1 (.fieldLinkNest RX12 175 "HookPierModel$Pier" "baits" "I" "HookPierModel") (List.mem_of_getElem? (i := 26) rfl))) (fun _ h9 => h9) rfl dX12_size_112 ?_
        obtain rfl := h
        have hP9 := hP.sub (ws' := ((a0, .inr (9, [.int 0, .int m_t.2.1, .int m_t.2.2, .ref a2, g13, .ref a3, .int m_s.2.1, .int m_s.2.2.1, .int m_s.2.2.2.1, .int m_s.2.2.2.2.1, .int m_s.2.2.2.2.2.1, .int m_s.2.2.2.2.2.2.1, .int m_s.2.2.2.2.2.2.2.1, .int m_s.2.2.2.2.2.2.2.2.1, .long m_s.2.2.2.2.2.2.2.2.2, .ref a4, g14, .ref a5, .ref a6, .int m_h.2.2.1, .int m_h.2.2.2, g15, g16, g17, g18, g19, g20, g21, g22, g23])) :: bX11 a2 uq kq q_q ([(a3, .inl (cB25, 900, .inl m_s.1)), (a4, .inl (cB26, 26, .inl m_v)), (a5, .inl (cB27, 416, .inl m_h.1)), (a6, .inl (cB28, 78, .inl m_h.2.1))]))) [0, 1, 2, 3, 4, 5, 6, 7, 8, 9, 10, 11, 12, 13, 14, 15, 16, 17, 18, 19] rfl
        have hD9 := hD.sub (ws' := ((a0, .inr (9, [.int 0, .int m_t.2.1, .int m_t.2.2, .ref a2, g13, .ref a3, .int m_s.2.1, .int m_s.2.2.1, .int m_s.2.2.2.1, .int m_s.2.2.2.2.1, .int m_s.2.2.2.2.2.1, .int m_s.2.2.2.2.2.2.1, .int m_s.2.2.2.2.2.2.2.1, .int m_s.2.2.2.2.2.2.2.2.1, .long m_s.2.2.2.2.2.2.2.2.2, .ref a4, g14, .ref a5, .ref a6, .int m_h.2.2.1, .int m_h.2.2.2, g15, g16, g17, g18, g19, g20, g21, g22, g23])) :: bX11 a2 uq kq q_q ([(a3, .inl (cB25, 900, .inl m_s.1)), (a4, .inl (cB26, 26, .inl m_v)), (a5, .inl (cB27, 416, .inl m_h.1)), (a6, .inl (cB28, 78, .inl m_h.2.1))]))) [0, 1, 2, 3, 4, 5, 6, 7, 8, 9, 10, 11, 12, 13, 14, 15, 16, 17, 18, 19] (by decide) rfl
        have hK9 := hK.sub (tys' := []) [] rfl
        rw [hQQ]
        exact W.iret (v := q_q.2.2.2.2.1) hx hb hr (fun t ht hW => ⟨⟨q_q.2.2.2.2.1, (), rfl, rfl, by rw [ht]; exact hP9, va_K.moved hW.alike hK9, hD9⟩, hS.F ht⟩) hS.2.2 dX12_size_115
      have h := (if_neg c38_2).symm.trans h
      by_cases c38_3 : k1 = 3
      · have h := (if_pos c38_3).symm.trans h
        refine lv_tableIn (tgt := 116) hx hb dX12_size_38 (by rw [c38_3] <;> decide) (by rw [c38_3] <;> decide) (by rw [c38_3] <;> rfl) (by decide) ?_
        refine lv_aload_n hx hb dX12_size_116 rfl (lv_at hl 0 rfl) ?_
        refine va_get (D := (dC, dI)) (ci := 9) (v := .ref a2) (C := RX12) (T := TX12) (N := 30) hx hb hts ifX12_size_X12 hown hK hP 0 rfl rfl 3 (by decide) (hts (.fieldLink RX12 299 "HookPierModel" "pier" "LHookPierModel$Pier;") (List.mem_of_getElem? (i := 5) rfl)) (fun _ h9 => h9) rfl dX12_size_117 ?_
        refine va_getN (D := (dC, dI)) (ci := 8) (v := .int q_q.2.2.2.2.2.1) (C := RX11) (T := TX11) (N := 24) hx hb hts ifX12_size_X11 hown hK hP 1 rfl rfl 5 (by decide) (va_Nw.use rfl (hN.1 (.fieldLinkNest RX12 224 "HookPierModel$Pier" "askers" "I" "HookPierModel") (List.mem_of_getElem? (i := 27) rfl))) (fun _ h9 => h9) rfl dX12_size_120 ?_
        obtain rfl := h
        have hP9 := hP.sub (ws' := ((a0, .inr (9, [.int 0, .int m_t.2.1, .int m_t.2.2, .ref a2, g13, .ref a3, .int m_s.2.1, .int m_s.2.2.1, .int m_s.2.2.2.1, .int m_s.2.2.2.2.1, .int m_s.2.2.2.2.2.1, .int m_s.2.2.2.2.2.2.1, .int m_s.2.2.2.2.2.2.2.1, .int m_s.2.2.2.2.2.2.2.2.1, .long m_s.2.2.2.2.2.2.2.2.2, .ref a4, g14, .ref a5, .ref a6, .int m_h.2.2.1, .int m_h.2.2.2, g15, g16, g17, g18, g19, g20, g21, g22, g23])) :: bX11 a2 uq kq q_q ([(a3, .inl (cB25, 900, .inl m_s.1)), (a4, .inl (cB26, 26, .inl m_v)), (a5, .inl (cB27, 416, .inl m_h.1)), (a6, .inl (cB28, 78, .inl m_h.2.1))]))) [0, 1, 2, 3, 4, 5, 6, 7, 8, 9, 10, 11, 12, 13, 14, 15, 16, 17, 18, 19] rfl
        have hD9 := hD.sub (ws' := ((a0, .inr (9, [.int 0, .int m_t.2.1, .int m_t.2.2, .ref a2, g13, .ref a3, .int m_s.2.1, .int m_s.2.2.1, .int m_s.2.2.2.1, .int m_s.2.2.2.2.1, .int m_s.2.2.2.2.2.1, .int m_s.2.2.2.2.2.2.1, .int m_s.2.2.2.2.2.2.2.1, .int m_s.2.2.2.2.2.2.2.2.1, .long m_s.2.2.2.2.2.2.2.2.2, .ref a4, g14, .ref a5, .ref a6, .int m_h.2.2.1, .int m_h.2.2.2, g15, g16, g17, g18, g19, g20, g21, g22, g23])) :: bX11 a2 uq kq q_q ([(a3, .inl (cB25, 900, .inl m_s.1)), (a4, .inl (cB26, 26, .inl m_v)), (a5, .inl (cB27, 416, .inl m_h.1)), (a6, .inl (cB28, 78, .inl m_h.2.1))]))) [0, 1, 2, 3, 4, 5, 6, 7, 8, 9, 10, 11, 12, 13, 14, 15, 16, 17, 18, 19] (by decide) rfl
        have hK9 := hK.sub (tys' := []) [] rfl
        rw [hQQ]
        exact W.iret (v := q_q.2.2.2.2.2.1) hx hb hr (fun t ht hW => ⟨⟨q_q.2.2.2.2.2.1, (), rfl, rfl, by rw [ht]; exact hP9, va_K.moved hW.alike hK9, hD9⟩, hS.F ht⟩) hS.2.2 dX12_size_123
      have h := (if_neg c38_3).symm.trans h
      by_cases c38_4 : k1 = 4
      · have h := (if_pos c38_4).symm.trans h
        refine lv_tableIn (tgt := 124) hx hb dX12_size_38 (by rw [c38_4] <;> decide) (by rw [c38_4] <;> decide) (by rw [c38_4] <;> rfl) (by decide) ?_
        refine lv_aload_n hx hb dX12_size_124 rfl (lv_at hl 0 rfl) ?_
        refine va_get (D := (dC, dI)) (ci := 9) (v := .ref a2) (C := RX12) (T := TX12) (N := 30) hx hb hts ifX12_size_X12 hown hK hP 0 rfl rfl 3 (by decide) (hts (.fieldLink RX12 299 "HookPierModel" "pier" "LHookPierModel$Pier;") (List.mem_of_getElem? (i := 5) rfl)) (fun _ h9 => h9) rfl dX12_size_125 ?_
        refine va_getN (D := (dC, dI)) (ci := 8) (v := .int q_q.2.2.2.2.2.2.1) (C := RX11) (T := TX11) (N := 24) hx hb hts ifX12_size_X11 hown hK hP 1 rfl rfl 6 (by decide) (va_Nw.use rfl (hN.1 (.fieldLinkNest RX12 231 "HookPierModel$Pier" "answers" "I" "HookPierModel") (List.mem_of_getElem? (i := 28) rfl))) (fun _ h9 => h9) rfl dX12_size_128 ?_
        obtain rfl := h
        have hP9 := hP.sub (ws' := ((a0, .inr (9, [.int 0, .int m_t.2.1, .int m_t.2.2, .ref a2, g13, .ref a3, .int m_s.2.1, .int m_s.2.2.1, .int m_s.2.2.2.1, .int m_s.2.2.2.2.1, .int m_s.2.2.2.2.2.1, .int m_s.2.2.2.2.2.2.1, .int m_s.2.2.2.2.2.2.2.1, .int m_s.2.2.2.2.2.2.2.2.1, .long m_s.2.2.2.2.2.2.2.2.2, .ref a4, g14, .ref a5, .ref a6, .int m_h.2.2.1, .int m_h.2.2.2, g15, g16, g17, g18, g19, g20, g21, g22, g23])) :: bX11 a2 uq kq q_q ([(a3, .inl (cB25, 900, .inl m_s.1)), (a4, .inl (cB26, 26, .inl m_v)), (a5, .inl (cB27, 416, .inl m_h.1)), (a6, .inl (cB28, 78, .inl m_h.2.1))]))) [0, 1, 2, 3, 4, 5, 6, 7, 8, 9, 10, 11, 12, 13, 14, 15, 16, 17, 18, 19] rfl
        have hD9 := hD.sub (ws' := ((a0, .inr (9, [.int 0, .int m_t.2.1, .int m_t.2.2, .ref a2, g13, .ref a3, .int m_s.2.1, .int m_s.2.2.1, .int m_s.2.2.2.1, .int m_s.2.2.2.2.1, .int m_s.2.2.2.2.2.1, .int m_s.2.2.2.2.2.2.1, .int m_s.2.2.2.2.2.2.2.1, .int m_s.2.2.2.2.2.2.2.2.1, .long m_s.2.2.2.2.2.2.2.2.2, .ref a4, g14, .ref a5, .ref a6, .int m_h.2.2.1, .int m_h.2.2.2, g15, g16, g17, g18, g19, g20, g21, g22, g23])) :: bX11 a2 uq kq q_q ([(a3, .inl (cB25, 900, .inl m_s.1)), (a4, .inl (cB26, 26, .inl m_v)), (a5, .inl (cB27, 416, .inl m_h.1)), (a6, .inl (cB28, 78, .inl m_h.2.1))]))) [0, 1, 2, 3, 4, 5, 6, 7, 8, 9, 10, 11, 12, 13, 14, 15, 16, 17, 18, 19] (by decide) rfl
        have hK9 := hK.sub (tys' := []) [] rfl
        rw [hQQ]
        exact W.iret (v := q_q.2.2.2.2.2.2.1) hx hb hr (fun t ht hW => ⟨⟨q_q.2.2.2.2.2.2.1, (), rfl, rfl, by rw [ht]; exact hP9, va_K.moved hW.alike hK9, hD9⟩, hS.F ht⟩) hS.2.2 dX12_size_131
      have h := (if_neg c38_4).symm.trans h
      by_cases c38_5 : k1 = 5
      · have h := (if_pos c38_5).symm.trans h
        refine lv_tableIn (tgt := 132) hx hb dX12_size_38 (by rw [c38_5] <;> decide) (by rw [c38_5] <;> decide) (by rw [c38_5] <;> rfl) (by decide) ?_
        refine lv_aload_n hx hb dX12_size_132 rfl (lv_at hl 0 rfl) ?_
        refine va_get (D := (dC, dI)) (ci := 9) (v := .ref a2) (C := RX12) (T := TX12) (N := 30) hx hb hts ifX12_size_X12 hown hK hP 0 rfl rfl 3 (by decide) (hts (.fieldLink RX12 299 "HookPierModel" "pier" "LHookPierModel$Pier;") (List.mem_of_getElem? (i := 5) rfl)) (fun _ h9 => h9) rfl dX12_size_133 ?_
        refine va_getN (D := (dC, dI)) (ci := 8) (v := .int q_q.2.2.2.2.2.2.2.1) (C := RX11) (T := TX11) (N := 24) hx hb hts ifX12_size_X11 hown hK hP 1 rfl rfl 7 (by decide) (va_Nw.use rfl (hN.1 (.fieldLinkNest RX12 271 "HookPierModel$Pier" "bites" "I" "HookPierModel") (List.mem_of_getElem? (i := 29) rfl))) (fun _ h9 => h9) rfl dX12_size_136 ?_
        obtain rfl := h
        have hP9 := hP.sub (ws' := ((a0, .inr (9, [.int 0, .int m_t.2.1, .int m_t.2.2, .ref a2, g13, .ref a3, .int m_s.2.1, .int m_s.2.2.1, .int m_s.2.2.2.1, .int m_s.2.2.2.2.1, .int m_s.2.2.2.2.2.1, .int m_s.2.2.2.2.2.2.1, .int m_s.2.2.2.2.2.2.2.1, .int m_s.2.2.2.2.2.2.2.2.1, .long m_s.2.2.2.2.2.2.2.2.2, .ref a4, g14, .ref a5, .ref a6, .int m_h.2.2.1, .int m_h.2.2.2, g15, g16, g17, g18, g19, g20, g21, g22, g23])) :: bX11 a2 uq kq q_q ([(a3, .inl (cB25, 900, .inl m_s.1)), (a4, .inl (cB26, 26, .inl m_v)), (a5, .inl (cB27, 416, .inl m_h.1)), (a6, .inl (cB28, 78, .inl m_h.2.1))]))) [0, 1, 2, 3, 4, 5, 6, 7, 8, 9, 10, 11, 12, 13, 14, 15, 16, 17, 18, 19] rfl
        have hD9 := hD.sub (ws' := ((a0, .inr (9, [.int 0, .int m_t.2.1, .int m_t.2.2, .ref a2, g13, .ref a3, .int m_s.2.1, .int m_s.2.2.1, .int m_s.2.2.2.1, .int m_s.2.2.2.2.1, .int m_s.2.2.2.2.2.1, .int m_s.2.2.2.2.2.2.1, .int m_s.2.2.2.2.2.2.2.1, .int m_s.2.2.2.2.2.2.2.2.1, .long m_s.2.2.2.2.2.2.2.2.2, .ref a4, g14, .ref a5, .ref a6, .int m_h.2.2.1, .int m_h.2.2.2, g15, g16, g17, g18, g19, g20, g21, g22, g23])) :: bX11 a2 uq kq q_q ([(a3, .inl (cB25, 900, .inl m_s.1)), (a4, .inl (cB26, 26, .inl m_v)), (a5, .inl (cB27, 416, .inl m_h.1)), (a6, .inl (cB28, 78, .inl m_h.2.1))]))) [0, 1, 2, 3, 4, 5, 6, 7, 8, 9, 10, 11, 12, 13, 14, 15, 16, 17, 18, 19] (by decide) rfl
        have hK9 := hK.sub (tys' := []) [] rfl
        rw [hQQ]
        exact W.iret (v := q_q.2.2.2.2.2.2.2.1) hx hb hr (fun t ht hW => ⟨⟨q_q.2.2.2.2.2.2.2.1, (), rfl, rfl, by rw [ht]; exact hP9, va_K.moved hW.alike hK9, hD9⟩, hS.F ht⟩) hS.2.2 dX12_size_139
      have h := (if_neg c38_5).symm.trans h
      by_cases c38_6 : k1 = 6
      · have h := (if_pos c38_6).symm.trans h
        refine lv_tableIn (tgt := 140) hx hb dX12_size_38 (by rw [c38_6] <;> decide) (by rw [c38_6] <;> decide) (by rw [c38_6] <;> rfl) (by decide) ?_
        refine lv_aload_n hx hb dX12_size_140 rfl (lv_at hl 0 rfl) ?_
        refine va_get (D := (dC, dI)) (ci := 9) (v := .ref a4) (C := RX12) (T := TX12) (N := 30) hx hb hts ifX12_size_X12 hown hK hP 0 rfl rfl 15 (by decide) (hts (.fieldLink RX12 17 "HookPierModel" "v" "[I") (List.mem_of_getElem? (i := 6) rfl)) (fun _ h9 => h9) rfl dX12_size_141 ?_
        refine lv_bipush (v := 23) hx hb dX12_size_144 (by decide) ?_
        refine va_iald hx hb hK hP 17 15 rfl rfl (by unfold vp_in; decide) dX12_size_146 ?_
        obtain rfl := h
        have hP9 := hP.sub (ws' := ((a0, .inr (9, [.int 0, .int m_t.2.1, .int m_t.2.2, .ref a2, g13, .ref a3, .int m_s.2.1, .int m_s.2.2.1, .int m_s.2.2.2.1, .int m_s.2.2.2.2.1, .int m_s.2.2.2.2.2.1, .int m_s.2.2.2.2.2.2.1, .int m_s.2.2.2.2.2.2.2.1, .int m_s.2.2.2.2.2.2.2.2.1, .long m_s.2.2.2.2.2.2.2.2.2, .ref a4, g14, .ref a5, .ref a6, .int m_h.2.2.1, .int m_h.2.2.2, g15, g16, g17, g18, g19, g20, g21, g22, g23])) :: bX11 a2 uq kq q_q ([(a3, .inl (cB25, 900, .inl m_s.1)), (a4, .inl (cB26, 26, .inl m_v)), (a5, .inl (cB27, 416, .inl m_h.1)), (a6, .inl (cB28, 78, .inl m_h.2.1))]))) [0, 1, 2, 3, 4, 5, 6, 7, 8, 9, 10, 11, 12, 13, 14, 15, 16, 17, 18, 19] rfl
        have hD9 := hD.sub (ws' := ((a0, .inr (9, [.int 0, .int m_t.2.1, .int m_t.2.2, .ref a2, g13, .ref a3, .int m_s.2.1, .int m_s.2.2.1, .int m_s.2.2.2.1, .int m_s.2.2.2.2.1, .int m_s.2.2.2.2.2.1, .int m_s.2.2.2.2.2.2.1, .int m_s.2.2.2.2.2.2.2.1, .int m_s.2.2.2.2.2.2.2.2.1, .long m_s.2.2.2.2.2.2.2.2.2, .ref a4, g14, .ref a5, .ref a6, .int m_h.2.2.1, .int m_h.2.2.2, g15, g16, g17, g18, g19, g20, g21, g22, g23])) :: bX11 a2 uq kq q_q ([(a3, .inl (cB25, 900, .inl m_s.1)), (a4, .inl (cB26, 26, .inl m_v)), (a5, .inl (cB27, 416, .inl m_h.1)), (a6, .inl (cB28, 78, .inl m_h.2.1))]))) [0, 1, 2, 3, 4, 5, 6, 7, 8, 9, 10, 11, 12, 13, 14, 15, 16, 17, 18, 19] (by decide) rfl
        have hK9 := hK.sub (tys' := []) [] rfl
        rw [hQQ]
        exact W.iret (v := (m_v ((23 : Int32)).toNatClampNeg)) hx hb hr (fun t ht hW => ⟨⟨(m_v ((23 : Int32)).toNatClampNeg), (), rfl, rfl, by rw [ht]; exact hP9, va_K.moved hW.alike hK9, hD9⟩, hS.F ht⟩) hS.2.2 dX12_size_147
      have h := (if_neg c38_6).symm.trans h
      by_cases c38_7 : k1 = 7
      · have h := (if_pos c38_7).symm.trans h
        refine lv_tableIn (tgt := 148) hx hb dX12_size_38 (by rw [c38_7] <;> decide) (by rw [c38_7] <;> decide) (by rw [c38_7] <;> rfl) (by decide) ?_
        refine lv_aload_n hx hb dX12_size_148 rfl (lv_at hl 0 rfl) ?_
        refine va_get (D := (dC, dI)) (ci := 9) (v := .ref a4) (C := RX12) (T := TX12) (N := 30) hx hb hts ifX12_size_X12 hown hK hP 0 rfl rfl 15 (by decide) (hts (.fieldLink RX12 17 "HookPierModel" "v" "[I") (List.mem_of_getElem? (i := 6) rfl)) (fun _ h9 => h9) rfl dX12_size_149 ?_
        refine lv_bipush (v := 24) hx hb dX12_size_152 (by decide) ?_
        refine va_iald hx hb hK hP 17 15 rfl rfl (by unfold vp_in; decide) dX12_size_154 ?_
        obtain rfl := h
        have hP9 := hP.sub (ws' := ((a0, .inr (9, [.int 0, .int m_t.2.1, .int m_t.2.2, .ref a2, g13, .ref a3, .int m_s.2.1, .int m_s.2.2.1, .int m_s.2.2.2.1, .int m_s.2.2.2.2.1, .int m_s.2.2.2.2.2.1, .int m_s.2.2.2.2.2.2.1, .int m_s.2.2.2.2.2.2.2.1, .int m_s.2.2.2.2.2.2.2.2.1, .long m_s.2.2.2.2.2.2.2.2.2, .ref a4, g14, .ref a5, .ref a6, .int m_h.2.2.1, .int m_h.2.2.2, g15, g16, g17, g18, g19, g20, g21, g22, g23])) :: bX11 a2 uq kq q_q ([(a3, .inl (cB25, 900, .inl m_s.1)), (a4, .inl (cB26, 26, .inl m_v)), (a5, .inl (cB27, 416, .inl m_h.1)), (a6, .inl (cB28, 78, .inl m_h.2.1))]))) [0, 1, 2, 3, 4, 5, 6, 7, 8, 9, 10, 11, 12, 13, 14, 15, 16, 17, 18, 19] rfl
        have hD9 := hD.sub (ws' := ((a0, .inr (9, [.int 0, .int m_t.2.1, .int m_t.2.2, .ref a2, g13, .ref a3, .int m_s.2.1, .int m_s.2.2.1, .int m_s.2.2.2.1, .int m_s.2.2.2.2.1, .int m_s.2.2.2.2.2.1, .int m_s.2.2.2.2.2.2.1, .int m_s.2.2.2.2.2.2.2.1, .int m_s.2.2.2.2.2.2.2.2.1, .long m_s.2.2.2.2.2.2.2.2.2, .ref a4, g14, .ref a5, .ref a6, .int m_h.2.2.1, .int m_h.2.2.2, g15, g16, g17, g18, g19, g20, g21, g22, g23])) :: bX11 a2 uq kq q_q ([(a3, .inl (cB25, 900, .inl m_s.1)), (a4, .inl (cB26, 26, .inl m_v)), (a5, .inl (cB27, 416, .inl m_h.1)), (a6, .inl (cB28, 78, .inl m_h.2.1))]))) [0, 1, 2, 3, 4, 5, 6, 7, 8, 9, 10, 11, 12, 13, 14, 15, 16, 17, 18, 19] (by decide) rfl
        have hK9 := hK.sub (tys' := []) [] rfl
        rw [hQQ]
        exact W.iret (v := (m_v ((24 : Int32)).toNatClampNeg)) hx hb hr (fun t ht hW => ⟨⟨(m_v ((24 : Int32)).toNatClampNeg), (), rfl, rfl, by rw [ht]; exact hP9, va_K.moved hW.alike hK9, hD9⟩, hS.F ht⟩) hS.2.2 dX12_size_155
      have h := (if_neg c38_7).symm.trans h
      by_cases c38_8 : k1 = 8
      · have h := (if_pos c38_8).symm.trans h
        refine lv_tableIn (tgt := 156) hx hb dX12_size_38 (by rw [c38_8] <;> decide) (by rw [c38_8] <;> decide) (by rw [c38_8] <;> rfl) (by decide) ?_
        refine lv_aload_n hx hb dX12_size_156 rfl (lv_at hl 0 rfl) ?_
        refine va_get (D := (dC, dI)) (ci := 9) (v := .ref a4) (C := RX12) (T := TX12) (N := 30) hx hb hts ifX12_size_X12 hown hK hP 0 rfl rfl 15 (by decide) (hts (.fieldLink RX12 17 "HookPierModel" "v" "[I") (List.mem_of_getElem? (i := 6) rfl)) (fun _ h9 => h9) rfl dX12_size_157 ?_
        refine lv_bipush (v := 25) hx hb dX12_size_160 (by decide) ?_
        refine va_iald hx hb hK hP 17 15 rfl rfl (by unfold vp_in; decide) dX12_size_162 ?_
        obtain rfl := h
        have hP9 := hP.sub (ws' := ((a0, .inr (9, [.int 0, .int m_t.2.1, .int m_t.2.2, .ref a2, g13, .ref a3, .int m_s.2.1, .int m_s.2.2.1, .int m_s.2.2.2.1, .int m_s.2.2.2.2.1, .int m_s.2.2.2.2.2.1, .int m_s.2.2.2.2.2.2.1, .int m_s.2.2.2.2.2.2.2.1, .int m_s.2.2.2.2.2.2.2.2.1, .long m_s.2.2.2.2.2.2.2.2.2, .ref a4, g14, .ref a5, .ref a6, .int m_h.2.2.1, .int m_h.2.2.2, g15, g16, g17, g18, g19, g20, g21, g22, g23])) :: bX11 a2 uq kq q_q ([(a3, .inl (cB25, 900, .inl m_s.1)), (a4, .inl (cB26, 26, .inl m_v)), (a5, .inl (cB27, 416, .inl m_h.1)), (a6, .inl (cB28, 78, .inl m_h.2.1))]))) [0, 1, 2, 3, 4, 5, 6, 7, 8, 9, 10, 11, 12, 13, 14, 15, 16, 17, 18, 19] rfl
        have hD9 := hD.sub (ws' := ((a0, .inr (9, [.int 0, .int m_t.2.1, .int m_t.2.2, .ref a2, g13, .ref a3, .int m_s.2.1, .int m_s.2.2.1, .int m_s.2.2.2.1, .int m_s.2.2.2.2.1, .int m_s.2.2.2.2.2.1, .int m_s.2.2.2.2.2.2.1, .int m_s.2.2.2.2.2.2.2.1, .int m_s.2.2.2.2.2.2.2.2.1, .long m_s.2.2.2.2.2.2.2.2.2, .ref a4, g14, .ref a5, .ref a6, .int m_h.2.2.1, .int m_h.2.2.2, g15, g16, g17, g18, g19, g20, g21, g22, g23])) :: bX11 a2 uq kq q_q ([(a3, .inl (cB25, 900, .inl m_s.1)), (a4, .inl (cB26, 26, .inl m_v)), (a5, .inl (cB27, 416, .inl m_h.1)), (a6, .inl (cB28, 78, .inl m_h.2.1))]))) [0, 1, 2, 3, 4, 5, 6, 7, 8, 9, 10, 11, 12, 13, 14, 15, 16, 17, 18, 19] (by decide) rfl
        have hK9 := hK.sub (tys' := []) [] rfl
        rw [hQQ]
        exact W.iret (v := (m_v ((25 : Int32)).toNatClampNeg)) hx hb hr (fun t ht hW => ⟨⟨(m_v ((25 : Int32)).toNatClampNeg), (), rfl, rfl, by rw [ht]; exact hP9, va_K.moved hW.alike hK9, hD9⟩, hS.F ht⟩) hS.2.2 dX12_size_163
      have h := (if_neg c38_8).symm.trans h
      by_cases c38_9 : k1 = 9
      · have h := (if_pos c38_9).symm.trans h
        refine lv_tableIn (tgt := 164) hx hb dX12_size_38 (by rw [c38_9] <;> decide) (by rw [c38_9] <;> decide) (by rw [c38_9] <;> rfl) (by decide) ?_
        refine lv_aload_n hx hb dX12_size_164 rfl (lv_at hl 0 rfl) ?_
        refine va_get (D := (dC, dI)) (ci := 9) (v := .int m_h.2.2.1) (C := RX12) (T := TX12) (N := 30) hx hb hts ifX12_size_X12 hown hK hP 0 rfl rfl 19 (by decide) (hts (.fieldLink RX12 301 "HookPierModel" "acts" "I") (List.mem_of_getElem? (i := 7) rfl)) (fun _ h9 => h9) rfl dX12_size_165 ?_
        obtain rfl := h
        have hP9 := hP.sub (ws' := ((a0, .inr (9, [.int 0, .int m_t.2.1, .int m_t.2.2, .ref a2, g13, .ref a3, .int m_s.2.1, .int m_s.2.2.1, .int m_s.2.2.2.1, .int m_s.2.2.2.2.1, .int m_s.2.2.2.2.2.1, .int m_s.2.2.2.2.2.2.1, .int m_s.2.2.2.2.2.2.2.1, .int m_s.2.2.2.2.2.2.2.2.1, .long m_s.2.2.2.2.2.2.2.2.2, .ref a4, g14, .ref a5, .ref a6, .int m_h.2.2.1, .int m_h.2.2.2, g15, g16, g17, g18, g19, g20, g21, g22, g23])) :: bX11 a2 uq kq q_q ([(a3, .inl (cB25, 900, .inl m_s.1)), (a4, .inl (cB26, 26, .inl m_v)), (a5, .inl (cB27, 416, .inl m_h.1)), (a6, .inl (cB28, 78, .inl m_h.2.1))]))) [0, 1, 2, 3, 4, 5, 6, 7, 8, 9, 10, 11, 12, 13, 14, 15, 16, 17, 18, 19] rfl
        have hD9 := hD.sub (ws' := ((a0, .inr (9, [.int 0, .int m_t.2.1, .int m_t.2.2, .ref a2, g13, .ref a3, .int m_s.2.1, .int m_s.2.2.1, .int m_s.2.2.2.1, .int m_s.2.2.2.2.1, .int m_s.2.2.2.2.2.1, .int m_s.2.2.2.2.2.2.1, .int m_s.2.2.2.2.2.2.2.1, .int m_s.2.2.2.2.2.2.2.2.1, .long m_s.2.2.2.2.2.2.2.2.2, .ref a4, g14, .ref a5, .ref a6, .int m_h.2.2.1, .int m_h.2.2.2, g15, g16, g17, g18, g19, g20, g21, g22, g23])) :: bX11 a2 uq kq q_q ([(a3, .inl (cB25, 900, .inl m_s.1)), (a4, .inl (cB26, 26, .inl m_v)), (a5, .inl (cB27, 416, .inl m_h.1)), (a6, .inl (cB28, 78, .inl m_h.2.1))]))) [0, 1, 2, 3, 4, 5, 6, 7, 8, 9, 10, 11, 12, 13, 14, 15, 16, 17, 18, 19] (by decide) rfl
        have hK9 := hK.sub (tys' := []) [] rfl
        rw [hQQ]
        exact W.iret (v := m_h.2.2.1) hx hb hr (fun t ht hW => ⟨⟨m_h.2.2.1, (), rfl, rfl, by rw [ht]; exact hP9, va_K.moved hW.alike hK9, hD9⟩, hS.F ht⟩) hS.2.2 dX12_size_168
      have h := (if_neg c38_9).symm.trans h
      refine lv_tableOut (tgt := 169) hx hb dX12_size_38 (by simp only [fa_eq, ltv_0, ltv_1, ltv_2, ltv_3, ltv_4, ltv_5, ltv_6, ltv_7, ltv_8, ltv_9] at c38_0 c38_1 c38_2 c38_3 c38_4 c38_5 c38_6 c38_7 c38_8 c38_9; omega) (by decide) ?_
      refine lv_aload_n hx hb dX12_size_169 rfl (lv_at hl 0 rfl) ?_
      refine va_get (D := (dC, dI)) (ci := 9) (v := .int m_h.2.2.2) (C := RX12) (T := TX12) (N := 30) hx hb hts ifX12_size_X12 hown hK hP 0 rfl rfl 20 (by decide) (hts (.fieldLink RX12 304 "HookPierModel" "marks" "I") (List.mem_of_getElem? (i := 8) rfl)) (fun _ h9 => h9) rfl dX12_size_170 ?_
      obtain rfl := h
      have hP9 := hP.sub (ws' := ((a0, .inr (9, [.int 0, .int m_t.2.1, .int m_t.2.2, .ref a2, g13, .ref a3, .int m_s.2.1, .int m_s.2.2.1, .int m_s.2.2.2.1, .int m_s.2.2.2.2.1, .int m_s.2.2.2.2.2.1, .int m_s.2.2.2.2.2.2.1, .int m_s.2.2.2.2.2.2.2.1, .int m_s.2.2.2.2.2.2.2.2.1, .long m_s.2.2.2.2.2.2.2.2.2, .ref a4, g14, .ref a5, .ref a6, .int m_h.2.2.1, .int m_h.2.2.2, g15, g16, g17, g18, g19, g20, g21, g22, g23])) :: bX11 a2 uq kq q_q ([(a3, .inl (cB25, 900, .inl m_s.1)), (a4, .inl (cB26, 26, .inl m_v)), (a5, .inl (cB27, 416, .inl m_h.1)), (a6, .inl (cB28, 78, .inl m_h.2.1))]))) [0, 1, 2, 3, 4, 5, 6, 7, 8, 9, 10, 11, 12, 13, 14, 15, 16, 17, 18, 19] rfl
      have hD9 := hD.sub (ws' := ((a0, .inr (9, [.int 0, .int m_t.2.1, .int m_t.2.2, .ref a2, g13, .ref a3, .int m_s.2.1, .int m_s.2.2.1, .int m_s.2.2.2.1, .int m_s.2.2.2.2.1, .int m_s.2.2.2.2.2.1, .int m_s.2.2.2.2.2.2.1, .int m_s.2.2.2.2.2.2.2.1, .int m_s.2.2.2.2.2.2.2.2.1, .long m_s.2.2.2.2.2.2.2.2.2, .ref a4, g14, .ref a5, .ref a6, .int m_h.2.2.1, .int m_h.2.2.2, g15, g16, g17, g18, g19, g20, g21, g22, g23])) :: bX11 a2 uq kq q_q ([(a3, .inl (cB25, 900, .inl m_s.1)), (a4, .inl (cB26, 26, .inl m_v)), (a5, .inl (cB27, 416, .inl m_h.1)), (a6, .inl (cB28, 78, .inl m_h.2.1))]))) [0, 1, 2, 3, 4, 5, 6, 7, 8, 9, 10, 11, 12, 13, 14, 15, 16, 17, 18, 19] (by decide) rfl
      have hK9 := hK.sub (tys' := []) [] rfl
      rw [hQQ]
      exact W.iret (v := m_h.2.2.2) hx hb hr (fun t ht hW => ⟨⟨m_h.2.2.2, (), rfl, rfl, by rw [ht]; exact hP9, va_K.moved hW.alike hK9, hD9⟩, hS.F ht⟩) hS.2.2 dX12_size_173
    · have h := (if_pos c23).symm.trans h
      refine lv_iconst (v := (-1)) hx hb dX12_size_26 (by decide) ?_
      obtain rfl := h
      have hP9 := hP.sub (ws' := ((a0, .inr (9, [.int 0, .int m_t.2.1, .int m_t.2.2, .ref a2, g13, .ref a3, .int m_s.2.1, .int m_s.2.2.1, .int m_s.2.2.2.1, .int m_s.2.2.2.2.1, .int m_s.2.2.2.2.2.1, .int m_s.2.2.2.2.2.2.1, .int m_s.2.2.2.2.2.2.2.1, .int m_s.2.2.2.2.2.2.2.2.1, .long m_s.2.2.2.2.2.2.2.2.2, .ref a4, g14, .ref a5, .ref a6, .int m_h.2.2.1, .int m_h.2.2.2, g15, g16, g17, g18, g19, g20, g21, g22, g23])) :: bX11 a2 uq kq q_q ([(a3, .inl (cB25, 900, .inl m_s.1)), (a4, .inl (cB26, 26, .inl m_v)), (a5, .inl (cB27, 416, .inl m_h.1)), (a6, .inl (cB28, 78, .inl m_h.2.1))]))) [0, 1, 2, 3, 4, 5, 6, 7, 8, 9, 10, 11, 12, 13, 14, 15, 16, 17, 18, 19] rfl
      have hD9 := hD.sub (ws' := ((a0, .inr (9, [.int 0, .int m_t.2.1, .int m_t.2.2, .ref a2, g13, .ref a3, .int m_s.2.1, .int m_s.2.2.1, .int m_s.2.2.2.1, .int m_s.2.2.2.2.1, .int m_s.2.2.2.2.2.1, .int m_s.2.2.2.2.2.2.1, .int m_s.2.2.2.2.2.2.2.1, .int m_s.2.2.2.2.2.2.2.2.1, .long m_s.2.2.2.2.2.2.2.2.2, .ref a4, g14, .ref a5, .ref a6, .int m_h.2.2.1, .int m_h.2.2.2, g15, g16, g17, g18, g19, g20, g21, g22, g23])) :: bX11 a2 uq kq q_q ([(a3, .inl (cB25, 900, .inl m_s.1)), (a4, .inl (cB26, 26, .inl m_v)), (a5, .inl (cB27, 416, .inl m_h.1)), (a6, .inl (cB28, 78, .inl m_h.2.1))]))) [0, 1, 2, 3, 4, 5, 6, 7, 8, 9, 10, 11, 12, 13, 14, 15, 16, 17, 18, 19] (by decide) rfl
      have hK9 := hK.sub (tys' := []) [] rfl
      rw [hQQ]
      exact W.iret (v := (-1 : Int32)) hx hb hr (fun t ht hW => ⟨⟨(-1 : Int32), (), rfl, rfl, by rw [ht]; exact hP9, va_K.moved hW.alike hK9, hD9⟩, hS.F ht⟩) hS.2.2 dX12_size_27
  · have h := (if_pos c8).symm.trans h
    refine lv_aload_n hx hb dX12_size_11 rfl (lv_at hl 0 rfl) ?_
    refine va_get (D := (dC, dI)) (ci := 9) (v := .int m_s.2.1) (C := RX12) (T := TX12) (N := 30) hx hb hts ifX12_size_X12 hown hK hP 0 rfl rfl 6 (by decide) (hts (.fieldLink RX12 292 "HookPierModel" "taped" "I") (List.mem_of_getElem? (i := 9) rfl)) (fun _ h9 => h9) rfl dX12_size_12 ?_
    obtain rfl := h
    have hP9 := hP.sub (ws' := ((a0, .inr (9, [.int 0, .int m_t.2.1, .int m_t.2.2, .ref a2, g13, .ref a3, .int m_s.2.1, .int m_s.2.2.1, .int m_s.2.2.2.1, .int m_s.2.2.2.2.1, .int m_s.2.2.2.2.2.1, .int m_s.2.2.2.2.2.2.1, .int m_s.2.2.2.2.2.2.2.1, .int m_s.2.2.2.2.2.2.2.2.1, .long m_s.2.2.2.2.2.2.2.2.2, .ref a4, g14, .ref a5, .ref a6, .int m_h.2.2.1, .int m_h.2.2.2, g15, g16, g17, g18, g19, g20, g21, g22, g23])) :: bX11 a2 uq kq q_q ([(a3, .inl (cB25, 900, .inl m_s.1)), (a4, .inl (cB26, 26, .inl m_v)), (a5, .inl (cB27, 416, .inl m_h.1)), (a6, .inl (cB28, 78, .inl m_h.2.1))]))) [0, 1, 2, 3, 4, 5, 6, 7, 8, 9, 10, 11, 12, 13, 14, 15, 16, 17, 18, 19] rfl
    have hD9 := hD.sub (ws' := ((a0, .inr (9, [.int 0, .int m_t.2.1, .int m_t.2.2, .ref a2, g13, .ref a3, .int m_s.2.1, .int m_s.2.2.1, .int m_s.2.2.2.1, .int m_s.2.2.2.2.1, .int m_s.2.2.2.2.2.1, .int m_s.2.2.2.2.2.2.1, .int m_s.2.2.2.2.2.2.2.1, .int m_s.2.2.2.2.2.2.2.2.1, .long m_s.2.2.2.2.2.2.2.2.2, .ref a4, g14, .ref a5, .ref a6, .int m_h.2.2.1, .int m_h.2.2.2, g15, g16, g17, g18, g19, g20, g21, g22, g23])) :: bX11 a2 uq kq q_q ([(a3, .inl (cB25, 900, .inl m_s.1)), (a4, .inl (cB26, 26, .inl m_v)), (a5, .inl (cB27, 416, .inl m_h.1)), (a6, .inl (cB28, 78, .inl m_h.2.1))]))) [0, 1, 2, 3, 4, 5, 6, 7, 8, 9, 10, 11, 12, 13, 14, 15, 16, 17, 18, 19] (by decide) rfl
    have hK9 := hK.sub (tys' := []) [] rfl
    rw [hQQ]
    exact W.iret (v := m_s.2.1) hx hb hr (fun t ht hW => ⟨⟨m_s.2.1, (), rfl, rfl, by rw [ht]; exact hP9, va_K.moved hW.alike hK9, hD9⟩, hS.F ht⟩) hS.2.2 dX12_size_15
theorem dX12_trouble_0 : decode cX12_trouble 0 = .ok (.aload_n 0, 1) := by decide +kernel
theorem dX12_trouble_1 : decode cX12_trouble 1 = .ok (.iconst 0, 1) := by decide +kernel
theorem dX12_trouble_2 : decode cX12_trouble 2 = .ok (.putfield 36, 3) := by decide +kernel
theorem dX12_trouble_5 : decode cX12_trouble 5 = .ok (.aload_n 0, 1) := by decide +kernel
theorem dX12_trouble_6 : decode cX12_trouble 6 = .ok (.getfield 39, 3) := by decide +kernel
theorem dX12_trouble_9 : decode cX12_trouble 9 = .ok (.ireturn, 1) := by decide +kernel
def vfX12_trouble : List Cond := List.cons (.code yX12_trouble cX12_trouble 1 (some .int)) (apW [.fieldLink RX12 36 "HookPierModel" "thrown" "I", .fieldLink RX12 39 "HookPierModel" "trouble" "I"] (wsX120))
theorem ifX12_trouble_X12 : ∀ w ∈ wsX120, w ∈ vfX12_trouble := fun _ h => (List.mem_cons_of_mem _ (List.mem_append_right _ h))
theorem qfX12_trouble : Good vfX12_trouble := gd_cons (by decide +kernel) (gd_app (gd_dec (by decide +kernel) : Good [.fieldLink RX12 36 "HookPierModel" "thrown" "I", .fieldLink RX12 39 "HookPierModel" "trouble" "I"]) qsX12)
set_option maxHeartbeats 2000000 in
set_option maxRecDepth 100000 in
theorem kfX12_trouble (l : Launch) (dC : Nat → ClassId) (dI : Nat → Nat → Nat) (a0 : Nat) (m_t : TX12_t) (g2 : Value) (g3 : Value) (g4 : Value) (g5 : Value) (g6 : Value) (g7 : Value) (g8 : Value) (g9 : Value) (g10 : Value) (g11 : Value) (g12 : Value) (g13 : Value) (g14 : Value) (g15 : Value) (g16 : Value) (g17 : Value) (g18 : Value) (g19 : Value) (g20 : Value) (g21 : Value) (g22 : Value) (g23 : Value) (g24 : Value) (g25 : Value) (g26 : Value) (g27 : Value) (g28 : Value) (sz : Nat) (out : (Int32 × TX12_t)) (h : f_X12_trouble m_t = out) : Met l yX12_trouble vfX12_trouble ({ frames := 0, cells := 0, slots := 0, locals := 0 }) (PC (dC, dI) [.ref a0] sz ([(a0, .inr (9, [.int m_t.1, .int m_t.2.1, .int m_t.2.2, g2, g3, g4, g5, g6, g7, g8, g9, g10, g11, g12, g13, g14, g15, g16, g17, g18, g19, g20, g21, g22, g23, g24, g25, g26, g27, g28]))]) ([])) (va_Qi (S := Unit) (fun (r : Int32) _ => r = out.1) (fun _ t => BC (dC, dI) (va_A ([(a0, .inr (9, [.int m_t.1, .int m_t.2.1, .int m_t.2.2, g2, g3, g4, g5, g6, g7, g8, g9, g10, g11, g12, g13, g14, g15, g16, g17, g18, g19, g20, g21, g22, g23, g24, g25, g26, g27, g28]))]) sz) ([(a0, .inr (9, [.int out.2.1, .int out.2.2.1, .int out.2.2.2, g2, g3, g4, g5, g6, g7, g8, g9, g10, g11, g12, g13, g14, g15, g16, g17, g18, g19, g20, g21, g22, g23, g24, g25, g26, g27, g28]))]) [] t) (va_A ([(a0, .inr (9, [.int m_t.1, .int m_t.2.1, .int m_t.2.2, g2, g3, g4, g5, g6, g7, g8, g9, g10, g11, g12, g13, g14, g15, g16, g17, g18, g19, g20, g21, g22, g23, g24, g25, g26, g27, g28]))]) sz)) 0 0 (va_A ([(a0, .inr (9, [.int m_t.1, .int m_t.2.1, .int m_t.2.2, g2, g3, g4, g5, g6, g7, g8, g9, g10, g11, g12, g13, g14, g15, g16, g17, g18, g19, g20, g21, g22, g23, g24, g25, g26, g27, g28]))]) sz) := by
  refine Met.ofW (cc := cX12_trouble) (maxL := 1) (ret := (some .int)) (by decide) rfl ?_
  intro p e s m args below meth c s₁ B0 hml hv
  obtain ⟨rfl, hsz, hP, hK, hD0, hN⟩ := hv
  have hx := B0.exec
  have hb := B0.bytes
  have hr := B0.returns
  have hts := atoms_spec (ws := vfX12_trouble) B0.pre
  have hown : s.vm.findClass RX12 = some m.cls := findClass_of_methodNamed B0.named
  have hlocks := B0.notSynchronized
  subst hsz
  have hD := hD0.self (sz := s.heap.size)
  generalize hAe : va_A ([(a0, .inr (9, [.int m_t.1, .int m_t.2.1, .int m_t.2.2, g2, g3, g4, g5, g6, g7, g8, g9, g10, g11, g12, g13, g14, g15, g16, g17, g18, g19, g20, g21, g22, g23, g24, g25, g26, g27, g28]))]) s.heap.size = A at hD ⊢
  have hA : ∀ q : Nat, s.heap.size ≤ q → A q := fun q h => by rw [← hAe]; exact Or.inr h
  have hS : va_S A s.heap s.heap [] := va_S.rf
  have hP : va_P (dC, dI) vwCl ([(a0, .inr (9, [.int m_t.1, .int m_t.2.1, .int m_t.2.2, g2, g3, g4, g5, g6, g7, g8, g9, g10, g11, g12, g13, g14, g15, g16, g17, g18, g19, g20, g21, g22, g23, g24, g25, g26, g27, g28]))]) s.heap := hP
  have hl := lv_entry ([.ref a0]) (n := 1) (Nat.le_of_ble_eq_true rfl)
  rw [lg_entry_eq]
  generalize (lg_sl ([.ref a0]) ++ List.replicate (1 - (lg_sl ([.ref a0])).length) Slot.unset).toArray = ls at hl ⊢
  have hl : lv_has ls 1 [(0, .ref a0)] := hl
  refine W_q (fun QQ hQQ => ?_)
  rw [f_X12_trouble] at h
  refine lv_aload_n hx hb dX12_trouble_0 rfl (lv_at hl 0 rfl) ?_
  refine lv_iconst (v := 0) hx hb dX12_trouble_1 (by decide) ?_
  refine va_put (D := (dC, dI)) (ci := 9) (v := .int 0) (ty := .int) (C := RX12) (T := TX12) (N := 30) hx hb hts ifX12_trouble_X12 tyX12 tyX12_ok nmX12 hown hK hP hD hS 0 rfl rfl 0 (by decide) (hts (.fieldLink RX12 36 "HookPierModel" "thrown" "I") (List.mem_of_getElem? (i := 1) rfl)) (fun _ h9 => h9) rfl (by decide +kernel) rfl rfl (Nat.le_of_ble_eq_true rfl) dX12_trouble_2 (fun H locs hP hD hS => ?_)
  have hP : va_P (dC, dI) vwCl ([(a0, .inr (9, [.int 0, .int m_t.2.1, .int m_t.2.2, g2, g3, g4, g5, g6, g7, g8, g9, g10, g11, g12, g13, g14, g15, g16, g17, g18, g19, g20, g21, g22, g23, g24, g25, g26, g27, g28]))]) H := hP
  have hD : va_D A ([(a0, .inr (9, [.int 0, .int m_t.2.1, .int m_t.2.2, g2, g3, g4, g5, g6, g7, g8, g9, g10, g11, g12, g13, g14, g15, g16, g17, g18, g19, g20, g21, g22, g23, g24, g25, g26, g27, g28]))]) := hD
  refine lv_aload_n hx hb dX12_trouble_5 rfl (lv_at hl 0 rfl) ?_
  refine va_get (D := (dC, dI)) (ci := 9) (v := .int m_t.2.1) (C := RX12) (T := TX12) (N := 30) hx hb hts ifX12_trouble_X12 hown hK hP 0 rfl rfl 1 (by decide) (hts (.fieldLink RX12 39 "HookPierModel" "trouble" "I") (List.mem_of_getElem? (i := 2) rfl)) (fun _ h9 => h9) rfl dX12_trouble_6 ?_
  obtain rfl := h
  have hP9 := hP.sub (ws' := ([(a0, .inr (9, [.int 0, .int m_t.2.1, .int m_t.2.2, g2, g3, g4, g5, g6, g7, g8, g9, g10, g11, g12, g13, g14, g15, g16, g17, g18, g19, g20, g21, g22, g23, g24, g25, g26, g27, g28]))])) [0] rfl
  have hD9 := hD.sub (ws' := ([(a0, .inr (9, [.int 0, .int m_t.2.1, .int m_t.2.2, g2, g3, g4, g5, g6, g7, g8, g9, g10, g11, g12, g13, g14, g15, g16, g17, g18, g19, g20, g21, g22, g23, g24, g25, g26, g27, g28]))])) [0] (by decide) rfl
  have hK9 := hK.sub (tys' := []) [] rfl
  rw [hQQ]
  exact W.iret (v := m_t.2.1) hx hb hr (fun t ht hW => ⟨⟨m_t.2.1, (), rfl, rfl, by rw [ht]; exact hP9, va_K.moved hW.alike hK9, hD9⟩, hS.F ht⟩) hS.2.2 dX12_trouble_9
