theorem dX12_sell_0 : decode cX12_sell 0 = .ok (.aload_n 0, 1) := by decide +kernel
theorem dX12_sell_1 : decode cX12_sell 1 = .ok (.iconst 0, 1) := by decide +kernel
theorem dX12_sell_10 : decode cX12_sell 10 = .ok (.ifCond .ne 9, 3) := by decide +kernel
theorem dX12_sell_13 : decode cX12_sell 13 = .ok (.aload_n 0, 1) := by decide +kernel
theorem dX12_sell_14 : decode cX12_sell 14 = .ok (.iconst 1, 1) := by decide +kernel
theorem dX12_sell_15 : decode cX12_sell 15 = .ok (.invokevirtual 42, 3) := by decide +kernel
theorem dX12_sell_18 : decode cX12_sell 18 = .ok (.ireturn, 1) := by decide +kernel
theorem dX12_sell_19 : decode cX12_sell 19 = .ok (.aload_n 0, 1) := by decide +kernel
theorem dX12_sell_2 : decode cX12_sell 2 = .ok (.putfield 36, 3) := by decide +kernel
theorem dX12_sell_20 : decode cX12_sell 20 = .ok (.getfield 17, 3) := by decide +kernel
theorem dX12_sell_23 : decode cX12_sell 23 = .ok (.iconst 0, 1) := by decide +kernel
theorem dX12_sell_24 : decode cX12_sell 24 = .ok (.iload_n 1, 1) := by decide +kernel
theorem dX12_sell_25 : decode cX12_sell 25 = .ok (.iadd, 1) := by decide +kernel
theorem dX12_sell_26 : decode cX12_sell 26 = .ok (.iaload, 1) := by decide +kernel
theorem dX12_sell_27 : decode cX12_sell 27 = .ok (.iconst 1, 1) := by decide +kernel
theorem dX12_sell_28 : decode cX12_sell 28 = .ok (.if_icmp .eq 9, 3) := by decide +kernel
theorem dX12_sell_31 : decode cX12_sell 31 = .ok (.aload_n 0, 1) := by decide +kernel
theorem dX12_sell_32 : decode cX12_sell 32 = .ok (.iconst 5, 1) := by decide +kernel
theorem dX12_sell_33 : decode cX12_sell 33 = .ok (.invokevirtual 42, 3) := by decide +kernel
theorem dX12_sell_36 : decode cX12_sell 36 = .ok (.ireturn, 1) := by decide +kernel
theorem dX12_sell_37 : decode cX12_sell 37 = .ok (.aload_n 0, 1) := by decide +kernel
theorem dX12_sell_38 : decode cX12_sell 38 = .ok (.invokevirtual 501, 3) := by decide +kernel
theorem dX12_sell_41 : decode cX12_sell 41 = .ok (.aload_n 0, 1) := by decide +kernel
theorem dX12_sell_42 : decode cX12_sell 42 = .ok (.getfield 17, 3) := by decide +kernel
theorem dX12_sell_45 : decode cX12_sell 45 = .ok (.iconst 0, 1) := by decide +kernel
theorem dX12_sell_46 : decode cX12_sell 46 = .ok (.iload_n 1, 1) := by decide +kernel
theorem dX12_sell_47 : decode cX12_sell 47 = .ok (.iadd, 1) := by decide +kernel
theorem dX12_sell_48 : decode cX12_sell 48 = .ok (.iconst 2, 1) := by decide +kernel
theorem dX12_sell_49 : decode cX12_sell 49 = .ok (.iastore, 1) := by decide +kernel
theorem dX12_sell_5 : decode cX12_sell 5 = .ok (.aload_n 0, 1) := by decide +kernel
theorem dX12_sell_50 : decode cX12_sell 50 = .ok (.aload_n 0, 1) := by decide +kernel
theorem dX12_sell_51 : decode cX12_sell 51 = .ok (.getfield 17, 3) := by decide +kernel
theorem dX12_sell_54 : decode cX12_sell 54 = .ok (.bipush 25, 2) := by decide +kernel
theorem dX12_sell_56 : decode cX12_sell 56 = .ok (.dup2, 1) := by decide +kernel
theorem dX12_sell_57 : decode cX12_sell 57 = .ok (.iaload, 1) := by decide +kernel
theorem dX12_sell_58 : decode cX12_sell 58 = .ok (.aload_n 0, 1) := by decide +kernel
theorem dX12_sell_59 : decode cX12_sell 59 = .ok (.iload_n 1, 1) := by decide +kernel
theorem dX12_sell_6 : decode cX12_sell 6 = .ok (.iload_n 1, 1) := by decide +kernel
theorem dX12_sell_60 : decode cX12_sell 60 = .ok (.invokevirtual 442, 3) := by decide +kernel
theorem dX12_sell_63 : decode cX12_sell 63 = .ok (.iadd, 1) := by decide +kernel
theorem dX12_sell_64 : decode cX12_sell 64 = .ok (.iastore, 1) := by decide +kernel
theorem dX12_sell_65 : decode cX12_sell 65 = .ok (.aload_n 0, 1) := by decide +kernel
theorem dX12_sell_66 : decode cX12_sell 66 = .ok (.aload_n 0, 1) := by decide +kernel
theorem dX12_sell_67 : decode cX12_sell 67 = .ok (.iload_n 1, 1) := by decide +kernel
theorem dX12_sell_68 : decode cX12_sell 68 = .ok (.invokevirtual 442, 3) := by decide +kernel
theorem dX12_sell_7 : decode cX12_sell 7 = .ok (.invokevirtual 320, 3) := by decide +kernel
theorem dX12_sell_71 : decode cX12_sell 71 = .ok (.invokevirtual 46, 3) := by decide +kernel
theorem dX12_sell_74 : decode cX12_sell 74 = .ok (.ireturn, 1) := by decide +kernel
def vfX12_sell : List Cond := List.cons (.code yX12_sell cX12_sell 2 (some .int)) (apW [.fieldLink RX12 36 "HookPierModel" "thrown" "I", .methodLink RX12 320 yX12_isAnswer, .instanceMethod yX12_isAnswer, .selects RX12 yX12_isAnswer yX12_isAnswer, .initialized RX12, .fieldLink RX12 17 "HookPierModel" "v" "[I", .methodLink RX12 501 yX12_remembers, .instanceMethod yX12_remembers, .selects RX12 yX12_remembers yX12_remembers, .methodLink RX12 442 yX12_worthNow, .instanceMethod yX12_worthNow, .selects RX12 yX12_worthNow yX12_worthNow, .methodLink RX12 46 yX12_good, .instanceMethod yX12_good, .selects RX12 yX12_good yX12_good, .methodLink RX12 42 yX12_refused, .instanceMethod yX12_refused, .selects RX12 yX12_refused yX12_refused] (apW wsX120 (apW vfX12_isAnswer (apW vfX12_remembers (apW vfX12_worthNow (apW vfX12_good (vfX12_refused)))))))
theorem ifX12_sell_X12 : ∀ w ∈ wsX120, w ∈ vfX12_sell := fun _ h => (List.mem_cons_of_mem _ (List.mem_append_right _ (List.mem_append_left _ h)))
theorem qfX12_sell : Good vfX12_sell := gd_cons (by decide +kernel) (gd_app (gd_dec (by decide +kernel) : Good [.fieldLink RX12 36 "HookPierModel" "thrown" "I", .methodLink RX12 320 yX12_isAnswer, .instanceMethod yX12_isAnswer, .selects RX12 yX12_isAnswer yX12_isAnswer, .initialized RX12, .fieldLink RX12 17 "HookPierModel" "v" "[I", .methodLink RX12 501 yX12_remembers, .instanceMethod yX12_remembers, .selects RX12 yX12_remembers yX12_remembers, .methodLink RX12 442 yX12_worthNow, .instanceMethod yX12_worthNow, .selects RX12 yX12_worthNow yX12_worthNow, .methodLink RX12 46 yX12_good, .instanceMethod yX12_good, .selects RX12 yX12_good yX12_good, .methodLink RX12 42 yX12_refused, .instanceMethod yX12_refused, .selects RX12 yX12_refused yX12_refused]) (gd_app qsX12 (gd_app qfX12_isAnswer (gd_app qfX12_remembers (gd_app qfX12_worthNow (gd_app qfX12_good qfX12_refused))))))
theorem gfX12_sell_0 : GoodIn vfX12_sell (wsV RX12 320 RX12 yX12_isAnswer vfX12_isAnswer) := goodIn_app (goodIn_r [.methodLink RX12 320 yX12_isAnswer, .instanceMethod yX12_isAnswer, .selects RX12 yX12_isAnswer yX12_isAnswer, .initialized RX12] [2, 3, 4, 5] rfl (by decide +kernel)) (goodIn_m (fun _ h => (List.mem_cons_of_mem _ (List.mem_append_right _ (List.mem_append_right _ (List.mem_append_left _ h))))) qfX12_isAnswer)
theorem gfX12_sell_1 : GoodIn vfX12_sell (wsV RX12 501 RX12 yX12_remembers vfX12_remembers) := goodIn_app (goodIn_r [.methodLink RX12 501 yX12_remembers, .instanceMethod yX12_remembers, .selects RX12 yX12_remembers yX12_remembers, .initialized RX12] [7, 8, 9, 5] rfl (by decide +kernel)) (goodIn_m (fun _ h => (List.mem_cons_of_mem _ (List.mem_append_right _ (List.mem_append_right _ (List.mem_append_right _ (List.mem_append_left _ h)))))) qfX12_remembers)
theorem gfX12_sell_2 : GoodIn vfX12_sell (wsV RX12 442 RX12 yX12_worthNow vfX12_worthNow) := goodIn_app (goodIn_r [.methodLink RX12 442 yX12_worthNow, .instanceMethod yX12_worthNow, .selects RX12 yX12_worthNow yX12_worthNow, .initialized RX12] [10, 11, 12, 5] rfl (by decide +kernel)) (goodIn_m (fun _ h => (List.mem_cons_of_mem _ (List.mem_append_right _ (List.mem_append_right _ (List.mem_append_right _ (List.mem_append_right _ (List.mem_append_left _ h))))))) qfX12_worthNow)
theorem gfX12_sell_3 : GoodIn vfX12_sell (wsV RX12 46 RX12 yX12_good vfX12_good) := goodIn_app (goodIn_r [.methodLink RX12 46 yX12_good, .instanceMethod yX12_good, .selects RX12 yX12_good yX12_good, .initialized RX12] [13, 14, 15, 5] rfl (by decide +kernel)) (goodIn_m (fun _ h => (List.mem_cons_of_mem _ (List.mem_append_right _ (List.mem_append_right _ (List.mem_append_right _ (List.mem_append_right _ (List.mem_append_right _ (List.mem_append_left _ h)))))))) qfX12_good)
theorem gfX12_sell_4 : GoodIn vfX12_sell (wsV RX12 42 RX12 yX12_refused vfX12_refused) := goodIn_app (goodIn_r [.methodLink RX12 42 yX12_refused, .instanceMethod yX12_refused, .selects RX12 yX12_refused yX12_refused, .initialized RX12] [16, 17, 18, 5] rfl (by decide +kernel)) (goodIn_m (fun _ h => (List.mem_cons_of_mem _ (List.mem_append_right _ (List.mem_append_right _ (List.mem_append_right _ (List.mem_append_right _ (List.mem_append_right _ (List.mem_append_right _ h)))))))) qfX12_refused)
set_option maxHeartbeats 2000000 in
set_option maxRecDepth 100000 in
theorem kfX12_sell (l : Launch) (dC : Nat → ClassId) (dI : Nat → Nat → Nat) (a0 : Nat) (k1 : Int32) (a2 : Nat) (a3 : Nat) (a4 : Nat) (a5 : Nat) (uq : Nat → Nat) (kq : Nat → ClassId) (m_t : TX12_t) (m_v : TX12_v) (m_h : TX12_h) (g11 : Value) (g12 : Value) (g13 : Value) (g14 : Value) (g15 : Value) (g16 : Value) (g17 : Value) (g18 : Value) (g19 : Value) (g20 : Value) (g21 : Value) (g22 : Value) (g23 : Value) (g24 : Value) (g25 : Value) (g26 : Value) (g27 : Value) (g28 : Value) (g29 : Value) (g30 : Value) (g31 : Value) (q_q : TX11_q) (cB33 : ClassId) (cB34 : ClassId) (cB35 : ClassId) (sz : Nat) (out : (Int32 × TX12_t × TX12_v × TX12_h)) (h : f_X12_sell k1 m_t m_v m_h q_q = some out) : Met l yX12_sell vfX12_sell ({ frames := 2, cells := 0, slots := 0, locals := 45 }) (PC (dC, dI) [.ref a0, .int k1] sz ((a0, .inr (9, [.int m_t.1, .int m_t.2.1, .int m_t.2.2, .ref a2, g11, g12, g13, g14, g15, g16, g17, g18, g19, g20, g21, .ref a3, g22, .ref a4, .ref a5, .int m_h.2.2.1, .int m_h.2.2.2, g23, g24, g25, g26, g27, g28, g29, g30, g31])) :: bX11 a2 uq kq q_q ([(a3, .inl (cB33, 26, .inl m_v)), (a4, .inl (cB34, 416, .inl m_h.1)), (a5, .inl (cB35, 78, .inl m_h.2.1))])) (tX11 kq ((cB33, .int) :: (cB34, .int) :: (cB35, .int) :: []))) (va_Qi (S := Unit) (fun (r : Int32) _ => r = out.1) (fun _ t => BC (dC, dI) (va_A ((a0, .inr (9, [.int m_t.1, .int m_t.2.1, .int m_t.2.2, .ref a2, g11, g12, g13, g14, g15, g16, g17, g18, g19, g20, g21, .ref a3, g22, .ref a4, .ref a5, .int m_h.2.2.1, .int m_h.2.2.2, g23, g24, g25, g26, g27, g28, g29, g30, g31])) :: bX11 a2 uq kq q_q ([(a3, .inl (cB33, 26, .inl m_v)), (a4, .inl (cB34, 416, .inl m_h.1)), (a5, .inl (cB35, 78, .inl m_h.2.1))])) sz) ((a0, .inr (9, [.int out.2.1.1, .int out.2.1.2.1, .int out.2.1.2.2, .ref a2, g11, g12, g13, g14, g15, g16, g17, g18, g19, g20, g21, .ref a3, g22, .ref a4, .ref a5, .int out.2.2.2.2.2.1, .int out.2.2.2.2.2.2, g23, g24, g25, g26, g27, g28, g29, g30, g31])) :: bX11 a2 uq kq q_q ([(a3, .inl (cB33, 26, .inl out.2.2.1)), (a4, .inl (cB34, 416, .inl out.2.2.2.1)), (a5, .inl (cB35, 78, .inl out.2.2.2.2.1))])) [] t) (va_A ((a0, .inr (9, [.int m_t.1, .int m_t.2.1, .int m_t.2.2, .ref a2, g11, g12, g13, g14, g15, g16, g17, g18, g19, g20, g21, .ref a3, g22, .ref a4, .ref a5, .int m_h.2.2.1, .int m_h.2.2.2, g23, g24, g25, g26, g27, g28, g29, g30, g31])) :: bX11 a2 uq kq q_q ([(a3, .inl (cB33, 26, .inl m_v)), (a4, .inl (cB34, 416, .inl m_h.1)), (a5, .inl (cB35, 78, .inl m_h.2.1))])) sz)) 0 0 (va_A ((a0, .inr (9, [.int m_t.1, .int m_t.2.1, .int m_t.2.2, .ref a2, g11, g12, g13, g14, g15, g16, g17, g18, g19, g20, g21, .ref a3, g22, .ref a4, .ref a5, .int m_h.2.2.1, .int m_h.2.2.2, g23, g24, g25, g26, g27, g28, g29, g30, g31])) :: bX11 a2 uq kq q_q ([(a3, .inl (cB33, 26, .inl m_v)), (a4, .inl (cB34, 416, .inl m_h.1)), (a5, .inl (cB35, 78, .inl m_h.2.1))])) sz) := by
  refine Met.ofW (cc := cX12_sell) (maxL := 2) (ret := (some .int)) (by decide) rfl ?_
  intro p e s m args below meth c s₁ B0 hml hv
  obtain ⟨rfl, hsz, hP, hK, hD0, hN⟩ := hv
  have hx := B0.exec
  have hb := B0.bytes
  have hr := B0.returns
  have hts := atoms_spec (ws := vfX12_sell) B0.pre
  have hown : s.vm.findClass RX12 = some m.cls := findClass_of_methodNamed B0.named
  have hlocks := B0.notSynchronized
  subst hsz
  have hD := hD0.self (sz := s.heap.size)
  generalize hAe : va_A ((a0, .inr (9, [.int m_t.1, .int m_t.2.1, .int m_t.2.2, .ref a2, g11, g12, g13, g14, g15, g16, g17, g18, g19, g20, g21, .ref a3, g22, .ref a4, .ref a5, .int m_h.2.2.1, .int m_h.2.2.2, g23, g24, g25, g26, g27, g28, g29, g30, g31])) :: bX11 a2 uq kq q_q ([(a3, .inl (cB33, 26, .inl m_v)), (a4, .inl (cB34, 416, .inl m_h.1)), (a5, .inl (cB35, 78, .inl m_h.2.1))])) s.heap.size = A at hD ⊢
  have hA : ∀ q : Nat, s.heap.size ≤ q → A q := fun q h => by rw [← hAe]; exact Or.inr h
  have hS : va_S A s.heap s.heap [] := va_S.rf
  have hP : va_P (dC, dI) vwCl ((a0, .inr (9, [.int m_t.1, .int m_t.2.1, .int m_t.2.2, .ref a2, g11, g12, g13, g14, g15, g16, g17, g18, g19, g20, g21, .ref a3, g22, .ref a4, .ref a5, .int m_h.2.2.1, .int m_h.2.2.2, g23, g24, g25, g26, g27, g28, g29, g30, g31])) :: bX11 a2 uq kq q_q ([(a3, .inl (cB33, 26, .inl m_v)), (a4, .inl (cB34, 416, .inl m_h.1)), (a5, .inl (cB35, 78, .inl m_h.2.1))])) s.heap := hP
  have hl := lv_entry ([.ref a0, .int k1]) (n := 2) (Nat.le_of_ble_eq_true rfl)
  rw [lg_entry_eq]
  generalize (lg_sl ([.ref a0, .int k1]) ++ List.replicate (2 - (lg_sl ([.ref a0, .int k1])).length) Slot.unset).toArray = ls at hl ⊢
  have hl : lv_has ls 2 [(0, .ref a0), (1, .int k1)] := hl
  refine W_q (fun QQ hQQ => ?_)
  rw [f_X12_sell] at h
  refine lv_aload_n hx hb dX12_sell_0 rfl (lv_at hl 0 rfl) ?_
  refine lv_iconst (v := 0) hx hb dX12_sell_1 (by decide) ?_
  refine va_put (D := (dC, dI)) (ci := 9) (v := .int 0) (ty := .int) (C := RX12) (T := TX12) (N := 30) hx hb hts ifX12_sell_X12 tyX12 tyX12_ok nmX12 hown hK hP hD hS 0 rfl rfl 0 (by decide) (hts (.fieldLink RX12 36 "HookPierModel" "thrown" "I") (List.mem_of_getElem? (i := 1) rfl)) (fun _ h9 => h9) rfl (by decide +kernel) rfl rfl (Nat.le_of_ble_eq_true rfl) dX12_sell_2 (fun H locs hP hD hS => ?_)
  have hP : va_P (dC, dI) vwCl ((a0, .inr (9, [.int 0, .int m_t.2.1, .int m_t.2.2, .ref a2, g11, g12, g13, g14, g15, g16, g17, g18, g19, g20, g21, .ref a3, g22, .ref a4, .ref a5, .int m_h.2.2.1, .int m_h.2.2.2, g23, g24, g25, g26, g27, g28, g29, g30, g31])) :: bX11 a2 uq kq q_q ([(a3, .inl (cB33, 26, .inl m_v)), (a4, .inl (cB34, 416, .inl m_h.1)), (a5, .inl (cB35, 78, .inl m_h.2.1))])) H := hP
  have hD : va_D A ((a0, .inr (9, [.int 0, .int m_t.2.1, .int m_t.2.2, .ref a2, g11, g12, g13, g14, g15, g16, g17, g18, g19, g20, g21, .ref a3, g22, .ref a4, .ref a5, .int m_h.2.2.1, .int m_h.2.2.2, g23, g24, g25, g26, g27, g28, g29, g30, g31])) :: bX11 a2 uq kq q_q ([(a3, .inl (cB33, 26, .inl m_v)), (a4, .inl (cB34, 416, .inl m_h.1)), (a5, .inl (cB35, 78, .inl m_h.2.1))])) := hD
  refine lv_aload_n hx hb dX12_sell_5 rfl (lv_at hl 0 rfl) ?_
  refine lv_iload_n hx hb dX12_sell_6 rfl (lv_at hl 1 rfl) ?_
  obtain ⟨o7, eo7⟩ : ∃ o, o = f_X12_isAnswer k1 q_q := ⟨_, rfl⟩
  have h := nm_of h o7 eo7
  refine cl_i (wc := ((a0, .inr (9, [.int 0, .int m_t.2.1, .int m_t.2.2, .ref a2, g11, g12, g13, g14, g15, g16, g17, g18, g19, g20, g21, .ref a3, g22, .ref a4, .ref a5, .int m_h.2.2.1, .int m_h.2.2.2, g23, g24, g25, g26, g27, g28, g29, g30, g31])) :: bX11 a2 uq kq q_q [])) (wr := ([(a3, .inl (cB33, 26, .inl m_v)), (a4, .inl (cB34, 416, .inl m_h.1)), (a5, .inl (cB35, 78, .inl m_h.2.1))])) (va_runV (As := [.int k1]) (rest := []) ⟨hx, hb, hml, hown, hts⟩ (kfX12_isAnswer l dC dI a0 k1 a2 uq kq (.int 0) (.int m_t.2.1) (.int m_t.2.2) (g11) (g12) (g13) (g14) (g15) (g16) (g17) (g18) (g19) (g20) (g21) (.ref a3) (g22) (.ref a4) (.ref a5) (.int m_h.2.2.1) (.int m_h.2.2.2) (g23) (g24) (g25) (g26) (g27) (g28) (g29) (g30) (g31) q_q H.size o7 eo7.symm) (cwV 1 hts gfX12_sell_0 rfl rfl rfl (by decide +kernel) ⟨(Nat.le_of_ble_eq_true rfl), (Nat.le_of_ble_eq_true rfl)⟩) (PV (hP.sub (ws' := ((a0, .inr (9, [.int 0, .int m_t.2.1, .int m_t.2.2, .ref a2, g11, g12, g13, g14, g15, g16, g17, g18, g19, g20, g21, .ref a3, g22, .ref a4, .ref a5, .int m_h.2.2.1, .int m_h.2.2.2, g23, g24, g25, g26, g27, g28, g29, g30, g31])) :: bX11 a2 uq kq q_q [])) [0, 1, 2, 3, 4, 5, 6, 7, 8, 9, 10, 11, 12, 13, 14, 15] rfl) (hK.sub (tys' := (tX11 kq ([]))) [0, 1, 2, 3, 4, 5, 6, 7, 8, 9, 10, 11, 12, 13] rfl) (hD.sub (ws' := ((a0, .inr (9, [.int 0, .int m_t.2.1, .int m_t.2.2, .ref a2, g11, g12, g13, g14, g15, g16, g17, g18, g19, g20, g21, .ref a3, g22, .ref a4, .ref a5, .int m_h.2.2.1, .int m_h.2.2.2, g23, g24, g25, g26, g27, g28, g29, g30, g31])) :: bX11 a2 uq kq q_q [])) [0, 1, 2, 3, 4, 5, 6, 7, 8, 9, 10, 11, 12, 13, 14, 15] (by decide) rfl) hN 0 rfl rfl) rfl rfl hl.1 rfl (lv_room (Nat.le_of_ble_eq_true rfl)) dX12_sell_7 ⟨(Nat.le_of_ble_eq_true rfl), (Nat.le_of_ble_eq_true rfl)⟩) hP hD hK hS hA [0, 1, 2, 3, 4, 5, 6, 7, 8, 9, 10, 11, 12, 13, 14, 15] [16, 17, 18] rfl rfl (by decide) (by decide) (fun r7 _ H locs hw hP hD _ hS => ?_)
  obtain ⟨hw, br7⟩ := hw
  obtain rfl := hw.symm
  have hP : va_P (dC, dI) vwCl ((a3, .inl (cB33, 26, .inl m_v)) :: (a4, .inl (cB34, 416, .inl m_h.1)) :: (a5, .inl (cB35, 78, .inl m_h.2.1)) :: (a0, .inr (9, [.int 0, .int m_t.2.1, .int m_t.2.2, .ref a2, g11, g12, g13, g14, g15, g16, g17, g18, g19, g20, g21, .ref a3, g22, .ref a4, .ref a5, .int m_h.2.2.1, .int m_h.2.2.2, g23, g24, g25, g26, g27, g28, g29, g30, g31])) :: bX11 a2 uq kq q_q []) H := hP
  have hD : va_D A ((a3, .inl (cB33, 26, .inl m_v)) :: (a4, .inl (cB34, 416, .inl m_h.1)) :: (a5, .inl (cB35, 78, .inl m_h.2.1)) :: (a0, .inr (9, [.int 0, .int m_t.2.1, .int m_t.2.2, .ref a2, g11, g12, g13, g14, g15, g16, g17, g18, g19, g20, g21, .ref a3, g22, .ref a4, .ref a5, .int m_h.2.2.1, .int m_h.2.2.2, g23, g24, g25, g26, g27, g28, g29, g30, g31])) :: bX11 a2 uq kq q_q []) := hD
  refine lv_if_ne (tgt := 19) hx hb dX12_sell_10 (by decide) (fun c10 => ?_) (fun c10 => ?_)
  · have h := (if_neg c10).symm.trans h
    refine lv_aload_n hx hb dX12_sell_19 rfl (lv_at hl 0 rfl) ?_
    refine va_get (D := (dC, dI)) (ci := 9) (v := .ref a3) (C := RX12) (T := TX12) (N := 30) hx hb hts ifX12_sell_X12 hown hK hP 3 rfl rfl 15 (by decide) (hts (.fieldLink RX12 17 "HookPierModel" "v" "[I") (List.mem_of_getElem? (i := 6) rfl)) (fun _ h9 => h9) rfl dX12_sell_20 ?_
    refine lv_iconst (v := 0) hx hb dX12_sell_23 (by decide) ?_
    refine lv_iload_n hx hb dX12_sell_24 rfl (lv_at hl 1 rfl) ?_
    refine lv_iadd hx hb dX12_sell_25 ?_
    obtain ⟨hg26, h⟩ := gA_of h
    refine va_iald hx hb hK hP 0 14 rfl rfl hg26 dX12_sell_26 ?_
    refine lv_iconst (v := 1) hx hb dX12_sell_27 (by decide) ?_
    refine lv_icmp_eq (tgt := 37) hx hb dX12_sell_28 (by decide) (fun c28 => ?_) (fun c28 => ?_)
    · have h := (if_pos c28).symm.trans h
      refine lv_aload_n hx hb dX12_sell_37 rfl (lv_at hl 0 rfl) ?_
      obtain ⟨o38, eo38, h⟩ := bd_of h
      refine cl_v (wc := ([(a0, .inr (9, [.int 0, .int m_t.2.1, .int m_t.2.2, .ref a2, g11, g12, g13, g14, g15, g16, g17, g18, g19, g20, g21, .ref a3, g22, .ref a4, .ref a5, .int m_h.2.2.1, .int m_h.2.2.2, g23, g24, g25, g26, g27, g28, g29, g30, g31])), (a3, .inl (cB33, 26, .inl m_v)), (a4, .inl (cB34, 416, .inl m_h.1)), (a5, .inl (cB35, 78, .inl m_h.2.1))])) (wr := (bX11 a2 uq kq q_q [])) (va_runV (As := []) (rest := []) ⟨hx, hb, hml, hown, hts⟩ (kfX12_remembers l dC dI a0 a3 a4 a5 m_v m_h (.int 0) (.int m_t.2.1) (.int m_t.2.2) (.ref a2) (g11) (g12) (g13) (g14) (g15) (g16) (g17) (g18) (g19) (g20) (g21) (g22) (g23) (g24) (g25) (g26) (g27) (g28) (g29) (g30) (g31) cB33 cB34 cB35 H.size o38 eo38) (cwV 0 hts gfX12_sell_1 rfl rfl rfl (by decide +kernel) ⟨(Nat.le_of_ble_eq_true rfl), (Nat.le_of_ble_eq_true rfl)⟩) (PV (hP.sub (ws' := ([(a0, .inr (9, [.int 0, .int m_t.2.1, .int m_t.2.2, .ref a2, g11, g12, g13, g14, g15, g16, g17, g18, g19, g20, g21, .ref a3, g22, .ref a4, .ref a5, .int m_h.2.2.1, .int m_h.2.2.2, g23, g24, g25, g26, g27, g28, g29, g30, g31])), (a3, .inl (cB33, 26, .inl m_v)), (a4, .inl (cB34, 416, .inl m_h.1)), (a5, .inl (cB35, 78, .inl m_h.2.1))])) [3, 0, 1, 2] rfl) (hK.sub (tys' := ((cB33, .int) :: (cB34, .int) :: (cB35, .int) :: [])) [14, 15, 16] rfl) (hD.sub (ws' := ([(a0, .inr (9, [.int 0, .int m_t.2.1, .int m_t.2.2, .ref a2, g11, g12, g13, g14, g15, g16, g17, g18, g19, g20, g21, .ref a3, g22, .ref a4, .ref a5, .int m_h.2.2.1, .int m_h.2.2.2, g23, g24, g25, g26, g27, g28, g29, g30, g31])), (a3, .inl (cB33, 26, .inl m_v)), (a4, .inl (cB34, 416, .inl m_h.1)), (a5, .inl (cB35, 78, .inl m_h.2.1))])) [3, 0, 1, 2] (by decide) rfl) hN 0 rfl rfl) rfl rfl hl.1 rfl (lv_room (Nat.le_of_ble_eq_true rfl)) dX12_sell_38 ⟨(Nat.le_of_ble_eq_true rfl), (Nat.le_of_ble_eq_true rfl)⟩) hP hD hK hS hA [3, 0, 1, 2] [4, 5, 6, 7, 8, 9, 10, 11, 12, 13, 14, 15, 16, 17, 18] rfl rfl (by decide) (by decide) (fun _ H locs hw hP hD _ hS => ?_)
      have hP : va_P (dC, dI) vwCl (bX11 a2 uq kq q_q ([(a0, .inr (9, [.int 0, .int m_t.2.1, .int m_t.2.2, .ref a2, g11, g12, g13, g14, g15, g16, g17, g18, g19, g20, g21, .ref a3, g22, .ref a4, .ref a5, .int o38.2.2.1, .int o38.2.2.2, g23, g24, g25, g26, g27, g28, g29, g30, g31])), (a3, .inl (cB33, 26, .inl m_v)), (a4, .inl (cB34, 416, .inl o38.1)), (a5, .inl (cB35, 78, .inl o38.2.1))])) H := hP
      have hD : va_D A (bX11 a2 uq kq q_q ([(a0, .inr (9, [.int 0, .int m_t.2.1, .int m_t.2.2, .ref a2, g11, g12, g13, g14, g15, g16, g17, g18, g19, g20, g21, .ref a3, g22, .ref a4, .ref a5, .int o38.2.2.1, .int o38.2.2.2, g23, g24, g25, g26, g27, g28, g29, g30, g31])), (a3, .inl (cB33, 26, .inl m_v)), (a4, .inl (cB34, 416, .inl o38.1)), (a5, .inl (cB35, 78, .inl o38.2.1))])) := hD
      refine lv_aload_n hx hb dX12_sell_41 rfl (lv_at hl 0 rfl) ?_
      refine va_get (D := (dC, dI)) (ci := 9) (v := .ref a3) (C := RX12) (T := TX12) (N := 30) hx hb hts ifX12_sell_X12 hown hK hP 15 rfl rfl 15 (by decide) (hts (.fieldLink RX12 17 "HookPierModel" "v" "[I") (List.mem_of_getElem? (i := 6) rfl)) (fun _ h9 => h9) rfl dX12_sell_42 ?_
      refine lv_iconst (v := 0) hx hb dX12_sell_45 (by decide) ?_
      refine lv_iload_n hx hb dX12_sell_46 rfl (lv_at hl 1 rfl) ?_
      refine lv_iadd hx hb dX12_sell_47 ?_
      refine lv_iconst (v := 2) hx hb dX12_sell_48 (by decide) ?_
      obtain ⟨hg49, h⟩ := gA_of h
      refine va_iast hx hb hK hP hD hS 16 14 rfl rfl hg49 dX12_sell_49 (fun H locs hP hD hS => ?_)
      have hP : va_P (dC, dI) vwCl (bX11 a2 uq kq q_q ([(a0, .inr (9, [.int 0, .int m_t.2.1, .int m_t.2.2, .ref a2, g11, g12, g13, g14, g15, g16, g17, g18, g19, g20, g21, .ref a3, g22, .ref a4, .ref a5, .int o38.2.2.1, .int o38.2.2.2, g23, g24, g25, g26, g27, g28, g29, g30, g31])), (a3, .inl (cB33, 26, .inl (upd m_v (((0 : Int32) + k1)).toNatClampNeg (2 : Int32)))), (a4, .inl (cB34, 416, .inl o38.1)), (a5, .inl (cB35, 78, .inl o38.2.1))])) H := hP
      have hD : va_D A (bX11 a2 uq kq q_q ([(a0, .inr (9, [.int 0, .int m_t.2.1, .int m_t.2.2, .ref a2, g11, g12, g13, g14, g15, g16, g17, g18, g19, g20, g21, .ref a3, g22, .ref a4, .ref a5, .int o38.2.2.1, .int o38.2.2.2, g23, g24, g25, g26, g27, g28, g29, g30, g31])), (a3, .inl (cB33, 26, .inl (upd m_v (((0 : Int32) + k1)).toNatClampNeg (2 : Int32)))), (a4, .inl (cB34, 416, .inl o38.1)), (a5, .inl (cB35, 78, .inl o38.2.1))])) := hD
      refine lv_aload_n hx hb dX12_sell_50 rfl (lv_at hl 0 rfl) ?_
      refine va_get (D := (dC, dI)) (ci := 9) (v := .ref a3) (C := RX12) (T := TX12) (N := 30) hx hb hts ifX12_sell_X12 hown hK hP 15 rfl rfl 15 (by decide) (hts (.fieldLink RX12 17 "HookPierModel" "v" "[I") (List.mem_of_getElem? (i := 6) rfl)) (fun _ h9 => h9) rfl dX12_sell_51 ?_
      refine lv_bipush (v := 25) hx hb dX12_sell_54 (by decide) ?_
      refine lv_dup2_11 hx hb dX12_sell_56 rfl rfl ?_
      refine va_iald hx hb hK hP 16 14 rfl rfl (by unfold vp_in; decide) dX12_sell_57 ?_
      refine lv_topi (fun z57 ez57 => ?_)
      have h := nm_of h z57 ez57
      refine lv_aload_n hx hb dX12_sell_58 rfl (lv_at hl 0 rfl) ?_
      refine lv_iload_n hx hb dX12_sell_59 rfl (lv_at hl 1 rfl) ?_
      obtain ⟨o60, eo60, h⟩ := bd_of h
      refine cl_i (wc := ((a0, .inr (9, [.int 0, .int m_t.2.1, .int m_t.2.2, .ref a2, g11, g12, g13, g14, g15, g16, g17, g18, g19, g20, g21, .ref a3, g22, .ref a4, .ref a5, .int o38.2.2.1, .int o38.2.2.2, g23, g24, g25, g26, g27, g28, g29, g30, g31])) :: bX11 a2 uq kq q_q ([(a3, .inl (cB33, 26, .inl (upd m_v (((0 : Int32) + k1)).toNatClampNeg (2 : Int32))))]))) (wr := ([(a4, .inl (cB34, 416, .inl o38.1)), (a5, .inl (cB35, 78, .inl o38.2.1))])) (va_runV (As := [.int k1]) (rest := [.int z57, .int 25, .ref a3]) ⟨hx, hb, hml, hown, hts⟩ (kfX12_worthNow l dC dI a0 k1 a2 a3 uq kq (upd m_v (((0 : Int32) + k1)).toNatClampNeg (2 : Int32)) (.int 0) (.int m_t.2.1) (.int m_t.2.2) (g11) (g12) (g13) (g14) (g15) (g16) (g17) (g18) (g19) (g20) (g21) (g22) (.ref a4) (.ref a5) (.int o38.2.2.1) (.int o38.2.2.2) (g23) (g24) (g25) (g26) (g27) (g28) (g29) (g30) (g31) q_q cB33 H.size o60 eo60) (cwV 1 hts gfX12_sell_2 rfl rfl rfl (by decide +kernel) ⟨(Nat.le_of_ble_eq_true rfl), (Nat.le_of_ble_eq_true rfl)⟩) (PV (hP.sub (ws' := ((a0, .inr (9, [.int 0, .int m_t.2.1, .int m_t.2.2, .ref a2, g11, g12, g13, g14, g15, g16, g17, g18, g19, g20, g21, .ref a3, g22, .ref a4, .ref a5, .int o38.2.2.1, .int o38.2.2.2, g23, g24, g25, g26, g27, g28, g29, g30, g31])) :: bX11 a2 uq kq q_q ([(a3, .inl (cB33, 26, .inl (upd m_v (((0 : Int32) + k1)).toNatClampNeg (2 : Int32))))]))) [15, 0, 1, 2, 3, 4, 5, 6, 7, 8, 9, 10, 11, 12, 13, 14, 16] rfl) (hK.sub (tys' := (tX11 kq ((cB33, .int) :: []))) [0, 1, 2, 3, 4, 5, 6, 7, 8, 9, 10, 11, 12, 13, 14] rfl) (hD.sub (ws' := ((a0, .inr (9, [.int 0, .int m_t.2.1, .int m_t.2.2, .ref a2, g11, g12, g13, g14, g15, g16, g17, g18, g19, g20, g21, .ref a3, g22, .ref a4, .ref a5, .int o38.2.2.1, .int o38.2.2.2, g23, g24, g25, g26, g27, g28, g29, g30, g31])) :: bX11 a2 uq kq q_q ([(a3, .inl (cB33, 26, .inl (upd m_v (((0 : Int32) + k1)).toNatClampNeg (2 : Int32))))]))) [15, 0, 1, 2, 3, 4, 5, 6, 7, 8, 9, 10, 11, 12, 13, 14, 16] (by decide) rfl) hN 0 rfl rfl) rfl rfl hl.1 rfl (lv_room (Nat.le_of_ble_eq_true rfl)) dX12_sell_60 ⟨(Nat.le_of_ble_eq_true rfl), (Nat.le_of_ble_eq_true rfl)⟩) hP hD hK hS hA [15, 0, 1, 2, 3, 4, 5, 6, 7, 8, 9, 10, 11, 12, 13, 14, 16] [17, 18] rfl rfl (by decide) (by decide) (fun r60 _ H locs hw hP hD _ hS => ?_)
      obtain rfl := hw.symm
      have hP : va_P (dC, dI) vwCl ((a4, .inl (cB34, 416, .inl o38.1)) :: (a5, .inl (cB35, 78, .inl o38.2.1)) :: (a0, .inr (9, [.int 0, .int m_t.2.1, .int m_t.2.2, .ref a2, g11, g12, g13, g14, g15, g16, g17, g18, g19, g20, g21, .ref a3, g22, .ref a4, .ref a5, .int o38.2.2.1, .int o38.2.2.2, g23, g24, g25, g26, g27, g28, g29, g30, g31])) :: bX11 a2 uq kq q_q ([(a3, .inl (cB33, 26, .inl (upd m_v (((0 : Int32) + k1)).toNatClampNeg (2 : Int32))))])) H := hP
      have hD : va_D A ((a4, .inl (cB34, 416, .inl o38.1)) :: (a5, .inl (cB35, 78, .inl o38.2.1)) :: (a0, .inr (9, [.int 0, .int m_t.2.1, .int m_t.2.2, .ref a2, g11, g12, g13, g14, g15, g16, g17, g18, g19, g20, g21, .ref a3, g22, .ref a4, .ref a5, .int o38.2.2.1, .int o38.2.2.2, g23, g24, g25, g26, g27, g28, g29, g30, g31])) :: bX11 a2 uq kq q_q ([(a3, .inl (cB33, 26, .inl (upd m_v (((0 : Int32) + k1)).toNatClampNeg (2 : Int32))))])) := hD
      refine lv_iadd hx hb dX12_sell_63 ?_
      refine va_iast hx hb hK hP hD hS 18 14 rfl rfl (by unfold vp_in; decide) dX12_sell_64 (fun H locs hP hD hS => ?_)
      have hP : va_P (dC, dI) vwCl ((a4, .inl (cB34, 416, .inl o38.1)) :: (a5, .inl (cB35, 78, .inl o38.2.1)) :: (a0, .inr (9, [.int 0, .int m_t.2.1, .int m_t.2.2, .ref a2, g11, g12, g13, g14, g15, g16, g17, g18, g19, g20, g21, .ref a3, g22, .ref a4, .ref a5, .int o38.2.2.1, .int o38.2.2.2, g23, g24, g25, g26, g27, g28, g29, g30, g31])) :: bX11 a2 uq kq q_q ([(a3, .inl (cB33, 26, .inl (upd (upd m_v (((0 : Int32) + k1)).toNatClampNeg (2 : Int32)) ((25 : Int32)).toNatClampNeg (z57 + o60))))])) H := hP
      have hD : va_D A ((a4, .inl (cB34, 416, .inl o38.1)) :: (a5, .inl (cB35, 78, .inl o38.2.1)) :: (a0, .inr (9, [.int 0, .int m_t.2.1, .int m_t.2.2, .ref a2, g11, g12, g13, g14, g15, g16, g17, g18, g19, g20, g21, .ref a3, g22, .ref a4, .ref a5, .int o38.2.2.1, .int o38.2.2.2, g23, g24, g25, g26, g27, g28, g29, g30, g31])) :: bX11 a2 uq kq q_q ([(a3, .inl (cB33, 26, .inl (upd (upd m_v (((0 : Int32) + k1)).toNatClampNeg (2 : Int32)) ((25 : Int32)).toNatClampNeg (z57 + o60))))])) := hD
      refine lv_aload_n hx hb dX12_sell_65 rfl (lv_at hl 0 rfl) ?_
      refine lv_aload_n hx hb dX12_sell_66 rfl (lv_at hl 0 rfl) ?_
      refine lv_iload_n hx hb dX12_sell_67 rfl (lv_at hl 1 rfl) ?_
      obtain ⟨o68, eo68, h⟩ := bd_of h
      refine cl_i (wc := ((a0, .inr (9, [.int 0, .int m_t.2.1, .int m_t.2.2, .ref a2, g11, g12, g13, g14, g15, g16, g17, g18, g19, g20, g21, .ref a3, g22, .ref a4, .ref a5, .int o38.2.2.1, .int o38.2.2.2, g23, g24, g25, g26, g27, g28, g29, g30, g31])) :: bX11 a2 uq kq q_q ([(a3, .inl (cB33, 26, .inl (upd (upd m_v (((0 : Int32) + k1)).toNatClampNeg (2 : Int32)) ((25 : Int32)).toNatClampNeg (z57 + o60))))]))) (wr := ([(a4, .inl (cB34, 416, .inl o38.1)), (a5, .inl (cB35, 78, .inl o38.2.1))])) (va_runV (As := [.int k1]) (rest := [.ref a0]) ⟨hx, hb, hml, hown, hts⟩ (kfX12_worthNow l dC dI a0 k1 a2 a3 uq kq (upd (upd m_v (((0 : Int32) + k1)).toNatClampNeg (2 : Int32)) ((25 : Int32)).toNatClampNeg (z57 + o60)) (.int 0) (.int m_t.2.1) (.int m_t.2.2) (g11) (g12) (g13) (g14) (g15) (g16) (g17) (g18) (g19) (g20) (g21) (g22) (.ref a4) (.ref a5) (.int o38.2.2.1) (.int o38.2.2.2) (g23) (g24) (g25) (g26) (g27) (g28) (g29) (g30) (g31) q_q cB33 H.size o68 eo68) (cwV 1 hts gfX12_sell_2 rfl rfl rfl (by decide +kernel) ⟨(Nat.le_of_ble_eq_true rfl), (Nat.le_of_ble_eq_true rfl)⟩) (PV (hP.sub (ws' := ((a0, .inr (9, [.int 0, .int m_t.2.1, .int m_t.2.2, .ref a2, g11, g12, g13, g14, g15, g16, g17, g18, g19, g20, g21, .ref a3, g22, .ref a4, .ref a5, .int o38.2.2.1, .int o38.2.2.2, g23, g24, g25, g26, g27, g28, g29, g30, g31])) :: bX11 a2 uq kq q_q ([(a3, .inl (cB33, 26, .inl (upd (upd m_v (((0 : Int32) + k1)).toNatClampNeg (2 : Int32)) ((25 : Int32)).toNatClampNeg (z57 + o60))))]))) [2, 3, 4, 5, 6, 7, 8, 9, 10, 11, 12, 13, 14, 15, 16, 17, 18] rfl) (hK.sub (tys' := (tX11 kq ((cB33, .int) :: []))) [0, 1, 2, 3, 4, 5, 6, 7, 8, 9, 10, 11, 12, 13, 14] rfl) (hD.sub (ws' := ((a0, .inr (9, [.int 0, .int m_t.2.1, .int m_t.2.2, .ref a2, g11, g12, g13, g14, g15, g16, g17, g18, g19, g20, g21, .ref a3, g22, .ref a4, .ref a5, .int o38.2.2.1, .int o38.2.2.2, g23, g24, g25, g26, g27, g28, g29, g30, g31])) :: bX11 a2 uq kq q_q ([(a3, .inl (cB33, 26, .inl (upd (upd m_v (((0 : Int32) + k1)).toNatClampNeg (2 : Int32)) ((25 : Int32)).toNatClampNeg (z57 + o60))))]))) [2, 3, 4, 5, 6, 7, 8, 9, 10, 11, 12, 13, 14, 15, 16, 17, 18] (by decide) rfl) hN 0 rfl rfl) rfl rfl hl.1 rfl (lv_room (Nat.le_of_ble_eq_true rfl)) dX12_sell_68 ⟨(Nat.le_of_ble_eq_true rfl), (Nat.le_of_ble_eq_true rfl)⟩) hP hD hK hS hA [2, 3, 4, 5, 6, 7, 8, 9, 10, 11, 12, 13, 14, 15, 16, 17, 18] [0, 1] rfl rfl (by decide) (by decide) (fun r68 _ H locs hw hP hD _ hS => ?_)
      obtain rfl := hw.symm
      have hP : va_P (dC, dI) vwCl ((a4, .inl (cB34, 416, .inl o38.1)) :: (a5, .inl (cB35, 78, .inl o38.2.1)) :: (a0, .inr (9, [.int 0, .int m_t.2.1, .int m_t.2.2, .ref a2, g11, g12, g13, g14, g15, g16, g17, g18, g19, g20, g21, .ref a3, g22, .ref a4, .ref a5, .int o38.2.2.1, .int o38.2.2.2, g23, g24, g25, g26, g27, g28, g29, g30, g31])) :: bX11 a2 uq kq q_q ([(a3, .inl (cB33, 26, .inl (upd (upd m_v (((0 : Int32) + k1)).toNatClampNeg (2 : Int32)) ((25 : Int32)).toNatClampNeg (z57 + o60))))])) H := hP
      have hD : va_D A ((a4, .inl (cB34, 416, .inl o38.1)) :: (a5, .inl (cB35, 78, .inl o38.2.1)) :: (a0, .inr (9, [.int 0, .int m_t.2.1, .int m_t.2.2, .ref a2, g11, g12, g13, g14, g15, g16, g17, g18, g19, g20, g21, .ref a3, g22, .ref a4, .ref a5, .int o38.2.2.1, .int o38.2.2.2, g23, g24, g25, g26, g27, g28, g29, g30, g31])) :: bX11 a2 uq kq q_q ([(a3, .inl (cB33, 26, .inl (upd (upd m_v (((0 : Int32) + k1)).toNatClampNeg (2 : Int32)) ((25 : Int32)).toNatClampNeg (z57 + o60))))])) := hD
      obtain ⟨o71, eo71⟩ : ∃ o, o = f_X12_good o68 ((0 : Int32), m_t.2) := ⟨_, rfl⟩
      have h := nm_of h o71 eo71
      refine cl_i (wc := ([(a0, .inr (9, [.int 0, .int m_t.2.1, .int m_t.2.2, .ref a2, g11, g12, g13, g14, g15, g16, g17, g18, g19, g20, g21, .ref a3, g22, .ref a4, .ref a5, .int o38.2.2.1, .int o38.2.2.2, g23, g24, g25, g26, g27, g28, g29, g30, g31]))])) (wr := ((a4, .inl (cB34, 416, .inl o38.1)) :: (a5, .inl (cB35, 78, .inl o38.2.1)) :: bX11 a2 uq kq q_q ([(a3, .inl (cB33, 26, .inl (upd (upd m_v (((0 : Int32) + k1)).toNatClampNeg (2 : Int32)) ((25 : Int32)).toNatClampNeg (z57 + o60))))]))) (va_runV (As := [.int o68]) (rest := []) ⟨hx, hb, hml, hown, hts⟩ (kfX12_good l dC dI a0 o68 ((0 : Int32), m_t.2) (.ref a2) (g11) (g12) (g13) (g14) (g15) (g16) (g17) (g18) (g19) (g20) (g21) (.ref a3) (g22) (.ref a4) (.ref a5) (.int o38.2.2.1) (.int o38.2.2.2) (g23) (g24) (g25) (g26) (g27) (g28) (g29) (g30) (g31) H.size o71 eo71.symm) (cwV 1 hts gfX12_sell_3 rfl rfl rfl (by decide +kernel) ⟨(Nat.le_of_ble_eq_true rfl), (Nat.le_of_ble_eq_true rfl)⟩) (PV (hP.sub (ws' := ([(a0, .inr (9, [.int 0, .int m_t.2.1, .int m_t.2.2, .ref a2, g11, g12, g13, g14, g15, g16, g17, g18, g19, g20, g21, .ref a3, g22, .ref a4, .ref a5, .int o38.2.2.1, .int o38.2.2.2, g23, g24, g25, g26, g27, g28, g29, g30, g31]))])) [2] rfl) (hK.sub (tys' := ([])) [] rfl) (hD.sub (ws' := ([(a0, .inr (9, [.int 0, .int m_t.2.1, .int m_t.2.2, .ref a2, g11, g12, g13, g14, g15, g16, g17, g18, g19, g20, g21, .ref a3, g22, .ref a4, .ref a5, .int o38.2.2.1, .int o38.2.2.2, g23, g24, g25, g26, g27, g28, g29, g30, g31]))])) [2] (by decide) rfl) hN 0 rfl rfl) rfl rfl hl.1 rfl (lv_room (Nat.le_of_ble_eq_true rfl)) dX12_sell_71 ⟨(Nat.le_of_ble_eq_true rfl), (Nat.le_of_ble_eq_true rfl)⟩) hP hD hK hS hA [2] [0, 1, 3, 4, 5, 6, 7, 8, 9, 10, 11, 12, 13, 14, 15, 16, 17, 18] rfl rfl (by decide) (by decide) (fun r71 _ H locs hw hP hD _ hS => ?_)
      obtain rfl := hw
      have hP : va_P (dC, dI) vwCl ((a4, .inl (cB34, 416, .inl o38.1)) :: (a5, .inl (cB35, 78, .inl o38.2.1)) :: bX11 a2 uq kq q_q ([(a3, .inl (cB33, 26, .inl (upd (upd m_v (((0 : Int32) + k1)).toNatClampNeg (2 : Int32)) ((25 : Int32)).toNatClampNeg (z57 + o60)))), (a0, .inr (9, [.int o71.2.1, .int o71.2.2.1, .int o71.2.2.2, .ref a2, g11, g12, g13, g14, g15, g16, g17, g18, g19, g20, g21, .ref a3, g22, .ref a4, .ref a5, .int o38.2.2.1, .int o38.2.2.2, g23, g24, g25, g26, g27, g28, g29, g30, g31]))])) H := hP
      have hD : va_D A ((a4, .inl (cB34, 416, .inl o38.1)) :: (a5, .inl (cB35, 78, .inl o38.2.1)) :: bX11 a2 uq kq q_q ([(a3, .inl (cB33, 26, .inl (upd (upd m_v (((0 : Int32) + k1)).toNatClampNeg (2 : Int32)) ((25 : Int32)).toNatClampNeg (z57 + o60)))), (a0, .inr (9, [.int o71.2.1, .int o71.2.2.1, .int o71.2.2.2, .ref a2, g11, g12, g13, g14, g15, g16, g17, g18, g19, g20, g21, .ref a3, g22, .ref a4, .ref a5, .int o38.2.2.1, .int o38.2.2.2, g23, g24, g25, g26, g27, g28, g29, g30, g31]))])) := hD
      obtain rfl := Option.some.inj h
      have hP9 := hP.sub (ws' := ((a0, .inr (9, [.int o71.2.1, .int o71.2.2.1, .int o71.2.2.2, .ref a2, g11, g12, g13, g14, g15, g16, g17, g18, g19, g20, g21, .ref a3, g22, .ref a4, .ref a5, .int o38.2.2.1, .int o38.2.2.2, g23, g24, g25, g26, g27, g28, g29, g30, g31])) :: bX11 a2 uq kq q_q ([(a3, .inl (cB33, 26, .inl (upd (upd m_v (((0 : Int32) + k1)).toNatClampNeg (2 : Int32)) ((25 : Int32)).toNatClampNeg (z57 + o60)))), (a4, .inl (cB34, 416, .inl o38.1)), (a5, .inl (cB35, 78, .inl o38.2.1))]))) [18, 2, 3, 4, 5, 6, 7, 8, 9, 10, 11, 12, 13, 14, 15, 16, 17, 0, 1] rfl
      have hD9 := hD.sub (ws' := ((a0, .inr (9, [.int o71.2.1, .int o71.2.2.1, .int o71.2.2.2, .ref a2, g11, g12, g13, g14, g15, g16, g17, g18, g19, g20, g21, .ref a3, g22, .ref a4, .ref a5, .int o38.2.2.1, .int o38.2.2.2, g23, g24, g25, g26, g27, g28, g29, g30, g31])) :: bX11 a2 uq kq q_q ([(a3, .inl (cB33, 26, .inl (upd (upd m_v (((0 : Int32) + k1)).toNatClampNeg (2 : Int32)) ((25 : Int32)).toNatClampNeg (z57 + o60)))), (a4, .inl (cB34, 416, .inl o38.1)), (a5, .inl (cB35, 78, .inl o38.2.1))]))) [18, 2, 3, 4, 5, 6, 7, 8, 9, 10, 11, 12, 13, 14, 15, 16, 17, 0, 1] (by decide) rfl
      have hK9 := hK.sub (tys' := []) [] rfl
      rw [hQQ]
      exact W.iret (v := o71.1) hx hb hr (fun t ht hW => ⟨⟨o71.1, (), rfl, rfl, by rw [ht]; exact hP9, va_K.moved hW.alike hK9, hD9⟩, hS.F ht⟩) hS.2.2 dX12_sell_74
    · have h := (if_neg c28).symm.trans h
      refine lv_aload_n hx hb dX12_sell_31 rfl (lv_at hl 0 rfl) ?_
      refine lv_iconst (v := 5) hx hb dX12_sell_32 (by decide) ?_
      obtain ⟨o33, eo33⟩ : ∃ o, o = f_X12_refused (5 : Int32) ((0 : Int32), m_t.2) := ⟨_, rfl⟩
      have h := nm_of h o33 eo33
      refine cl_i (wc := ([(a0, .inr (9, [.int 0, .int m_t.2.1, .int m_t.2.2, .ref a2, g11, g12, g13, g14, g15, g16, g17, g18, g19, g20, g21, .ref a3, g22, .ref a4, .ref a5, .int m_h.2.2.1, .int m_h.2.2.2, g23, g24, g25, g26, g27, g28, g29, g30, g31]))])) (wr := ((a3, .inl (cB33, 26, .inl m_v)) :: (a4, .inl (cB34, 416, .inl m_h.1)) :: (a5, .inl (cB35, 78, .inl m_h.2.1)) :: bX11 a2 uq kq q_q [])) (va_runV (As := [.int 5]) (rest := []) ⟨hx, hb, hml, hown, hts⟩ (kfX12_refused l dC dI a0 (5 : Int32) ((0 : Int32), m_t.2) (.ref a2) (g11) (g12) (g13) (g14) (g15) (g16) (g17) (g18) (g19) (g20) (g21) (.ref a3) (g22) (.ref a4) (.ref a5) (.int m_h.2.2.1) (.int m_h.2.2.2) (g23) (g24) (g25) (g26) (g27) (g28) (g29) (g30) (g31) H.size o33 eo33.symm) (cwV 1 hts gfX12_sell_4 rfl rfl rfl (by decide +kernel) ⟨(Nat.le_of_ble_eq_true rfl), (Nat.le_of_ble_eq_true rfl)⟩) (PV (hP.sub (ws' := ([(a0, .inr (9, [.int 0, .int m_t.2.1, .int m_t.2.2, .ref a2, g11, g12, g13, g14, g15, g16, g17, g18, g19, g20, g21, .ref a3, g22, .ref a4, .ref a5, .int m_h.2.2.1, .int m_h.2.2.2, g23, g24, g25, g26, g27, g28, g29, g30, g31]))])) [3] rfl) (hK.sub (tys' := ([])) [] rfl) (hD.sub (ws' := ([(a0, .inr (9, [.int 0, .int m_t.2.1, .int m_t.2.2, .ref a2, g11, g12, g13, g14, g15, g16, g17, g18, g19, g20, g21, .ref a3, g22, .ref a4, .ref a5, .int m_h.2.2.1, .int m_h.2.2.2, g23, g24, g25, g26, g27, g28, g29, g30, g31]))])) [3] (by decide) rfl) hN 0 rfl rfl) rfl rfl hl.1 rfl (lv_room (Nat.le_of_ble_eq_true rfl)) dX12_sell_33 ⟨(Nat.le_of_ble_eq_true rfl), (Nat.le_of_ble_eq_true rfl)⟩) hP hD hK hS hA [3] [0, 1, 2, 4, 5, 6, 7, 8, 9, 10, 11, 12, 13, 14, 15, 16, 17, 18] rfl rfl (by decide) (by decide) (fun r33 _ H locs hw hP hD _ hS => ?_)
      obtain rfl := hw
      have hP : va_P (dC, dI) vwCl ((a3, .inl (cB33, 26, .inl m_v)) :: (a4, .inl (cB34, 416, .inl m_h.1)) :: (a5, .inl (cB35, 78, .inl m_h.2.1)) :: bX11 a2 uq kq q_q ([(a0, .inr (9, [.int o33.1, .int o33.2.1, .int o33.2.2, .ref a2, g11, g12, g13, g14, g15, g16, g17, g18, g19, g20, g21, .ref a3, g22, .ref a4, .ref a5, .int m_h.2.2.1, .int m_h.2.2.2, g23, g24, g25, g26, g27, g28, g29, g30, g31]))])) H := hP
      have hD : va_D A ((a3, .inl (cB33, 26, .inl m_v)) :: (a4, .inl (cB34, 416, .inl m_h.1)) :: (a5, .inl (cB35, 78, .inl m_h.2.1)) :: bX11 a2 uq kq q_q ([(a0, .inr (9, [.int o33.1, .int o33.2.1, .int o33.2.2, .ref a2, g11, g12, g13, g14, g15, g16, g17, g18, g19, g20, g21, .ref a3, g22, .ref a4, .ref a5, .int m_h.2.2.1, .int m_h.2.2.2, g23, g24, g25, g26, g27, g28, g29, g30, g31]))])) := hD
      obtain rfl := Option.some.inj h
      have hP9 := hP.sub (ws' := ((a0, .inr (9, [.int o33.1, .int o33.2.1, .int o33.2.2, .ref a2, g11, g12, g13, g14, g15, g16, g17, g18, g19, g20, g21, .ref a3, g22, .ref a4, .ref a5, .int m_h.2.2.1, .int m_h.2.2.2, g23, g24, g25, g26, g27, g28, g29, g30, g31])) :: bX11 a2 uq kq q_q ([(a3, .inl (cB33, 26, .inl m_v)), (a4, .inl (cB34, 416, .inl m_h.1)), (a5, .inl (cB35, 78, .inl m_h.2.1))]))) [18, 3, 4, 5, 6, 7, 8, 9, 10, 11, 12, 13, 14, 15, 16, 17, 0, 1, 2] rfl
      have hD9 := hD.sub (ws' := ((a0, .inr (9, [.int o33.1, .int o33.2.1, .int o33.2.2, .ref a2, g11, g12, g13, g14, g15, g16, g17, g18, g19, g20, g21, .ref a3, g22, .ref a4, .ref a5, .int m_h.2.2.1, .int m_h.2.2.2, g23, g24, g25, g26, g27, g28, g29, g30, g31])) :: bX11 a2 uq kq q_q ([(a3, .inl (cB33, 26, .inl m_v)), (a4, .inl (cB34, 416, .inl m_h.1)), (a5, .inl (cB35, 78, .inl m_h.2.1))]))) [18, 3, 4, 5, 6, 7, 8, 9, 10, 11, 12, 13, 14, 15, 16, 17, 0, 1, 2] (by decide) rfl
      have hK9 := hK.sub (tys' := []) [] rfl
      rw [hQQ]
      exact W.iret (v := (-1 : Int32)) hx hb hr (fun t ht hW => ⟨⟨(-1 : Int32), (), rfl, rfl, by rw [ht]; exact hP9, va_K.moved hW.alike hK9, hD9⟩, hS.F ht⟩) hS.2.2 dX12_sell_36
  · have h := (if_pos c10).symm.trans h
    refine lv_aload_n hx hb dX12_sell_13 rfl (lv_at hl 0 rfl) ?_
    refine lv_iconst (v := 1) hx hb dX12_sell_14 (by decide) ?_
    obtain ⟨o15, eo15⟩ : ∃ o, o = f_X12_refused (1 : Int32) ((0 : Int32), m_t.2) := ⟨_, rfl⟩
    have h := nm_of h o15 eo15
    refine cl_i (wc := ([(a0, .inr (9, [.int 0, .int m_t.2.1, .int m_t.2.2, .ref a2, g11, g12, g13, g14, g15, g16, g17, g18, g19, g20, g21, .ref a3, g22, .ref a4, .ref a5, .int m_h.2.2.1, .int m_h.2.2.2, g23, g24, g25, g26, g27, g28, g29, g30, g31]))])) (wr := ((a3, .inl (cB33, 26, .inl m_v)) :: (a4, .inl (cB34, 416, .inl m_h.1)) :: (a5, .inl (cB35, 78, .inl m_h.2.1)) :: bX11 a2 uq kq q_q [])) (va_runV (As := [.int 1]) (rest := []) ⟨hx, hb, hml, hown, hts⟩ (kfX12_refused l dC dI a0 (1 : Int32) ((0 : Int32), m_t.2) (.ref a2) (g11) (g12) (g13) (g14) (g15) (g16) (g17) (g18) (g19) (g20) (g21) (.ref a3) (g22) (.ref a4) (.ref a5) (.int m_h.2.2.1) (.int m_h.2.2.2) (g23) (g24) (g25) (g26) (g27) (g28) (g29) (g30) (g31) H.size o15 eo15.symm) (cwV 1 hts gfX12_sell_4 rfl rfl rfl (by decide +kernel) ⟨(Nat.le_of_ble_eq_true rfl), (Nat.le_of_ble_eq_true rfl)⟩) (PV (hP.sub (ws' := ([(a0, .inr (9, [.int 0, .int m_t.2.1, .int m_t.2.2, .ref a2, g11, g12, g13, g14, g15, g16, g17, g18, g19, g20, g21, .ref a3, g22, .ref a4, .ref a5, .int m_h.2.2.1, .int m_h.2.2.2, g23, g24, g25, g26, g27, g28, g29, g30, g31]))])) [3] rfl) (hK.sub (tys' := ([])) [] rfl) (hD.sub (ws' := ([(a0, .inr (9, [.int 0, .int m_t.2.1, .int m_t.2.2, .ref a2, g11, g12, g13, g14, g15, g16, g17, g18, g19, g20, g21, .ref a3, g22, .ref a4, .ref a5, .int m_h.2.2.1, .int m_h.2.2.2, g23, g24, g25, g26, g27, g28, g29, g30, g31]))])) [3] (by decide) rfl) hN 0 rfl rfl) rfl rfl hl.1 rfl (lv_room (Nat.le_of_ble_eq_true rfl)) dX12_sell_15 ⟨(Nat.le_of_ble_eq_true rfl), (Nat.le_of_ble_eq_true rfl)⟩) hP hD hK hS hA [3] [0, 1, 2, 4, 5, 6, 7, 8, 9, 10, 11, 12, 13, 14, 15, 16, 17, 18] rfl rfl (by decide) (by decide) (fun r15 _ H locs hw hP hD _ hS => ?_)
    obtain rfl := hw
    have hP : va_P (dC, dI) vwCl ((a3, .inl (cB33, 26, .inl m_v)) :: (a4, .inl (cB34, 416, .inl m_h.1)) :: (a5, .inl (cB35, 78, .inl m_h.2.1)) :: bX11 a2 uq kq q_q ([(a0, .inr (9, [.int o15.1, .int o15.2.1, .int o15.2.2, .ref a2, g11, g12, g13, g14, g15, g16, g17, g18, g19, g20, g21, .ref a3, g22, .ref a4, .ref a5, .int m_h.2.2.1, .int m_h.2.2.2, g23, g24, g25, g26, g27, g28, g29, g30, g31]))])) H := hP
    have hD : va_D A ((a3, .inl (cB33, 26, .inl m_v)) :: (a4, .inl (cB34, 416, .inl m_h.1)) :: (a5, .inl (cB35, 78, .inl m_h.2.1)) :: bX11 a2 uq kq q_q ([(a0, .inr (9, [.int o15.1, .int o15.2.1, .int o15.2.2, .ref a2, g11, g12, g13, g14, g15, g16, g17, g18, g19, g20, g21, .ref a3, g22, .ref a4, .ref a5, .int m_h.2.2.1, .int m_h.2.2.2, g23, g24, g25, g26, g27, g28, g29, g30, g31]))])) := hD
    obtain rfl := Option.some.inj h
    have hP9 := hP.sub (ws' := ((a0, .inr (9, [.int o15.1, .int o15.2.1, .int o15.2.2, .ref a2, g11, g12, g13, g14, g15, g16, g17, g18, g19, g20, g21, .ref a3, g22, .ref a4, .ref a5, .int m_h.2.2.1, .int m_h.2.2.2, g23, g24, g25, g26, g27, g28, g29, g30, g31])) :: bX11 a2 uq kq q_q ([(a3, .inl (cB33, 26, .inl m_v)), (a4, .inl (cB34, 416, .inl m_h.1)), (a5, .inl (cB35, 78, .inl m_h.2.1))]))) [18, 3, 4, 5, 6, 7, 8, 9, 10, 11, 12, 13, 14, 15, 16, 17, 0, 1, 2] rfl
    have hD9 := hD.sub (ws' := ((a0, .inr (9, [.int o15.1, .int o15.2.1, .int o15.2.2, .ref a2, g11, g12, g13, g14, g15, g16, g17, g18, g19, g20, g21, .ref a3, g22, .ref a4, .ref a5, .int m_h.2.2.1, .int m_h.2.2.2, g23, g24, g25, g26, g27, g28, g29, g30, g31])) :: bX11 a2 uq kq q_q ([(a3, .inl (cB33, 26, .inl m_v)), (a4, .inl (cB34, 416, .inl m_h.1)), (a5, .inl (cB35, 78, .inl m_h.2.1))]))) [18, 3, 4, 5, 6, 7, 8, 9, 10, 11, 12, 13, 14, 15, 16, 17, 0, 1, 2] (by decide) rfl
    have hK9 := hK.sub (tys' := []) [] rfl
    rw [hQQ]
    exact W.iret (v := (-1 : Int32)) hx hb hr (fun t ht hW => ⟨⟨(-1 : Int32), (), rfl, rfl, by rw [ht]; exact hP9, va_K.moved hW.alike hK9, hD9⟩, hS.F ht⟩) hS.2.2 dX12_sell_18
theorem dX12_spotOf_0 : decode cX12_spotOf 0 = .ok (.iload_n 1, 1) := by decide +kernel
theorem dX12_spotOf_1 : decode cX12_spotOf 1 = .ok (.aload_n 0, 1) := by decide +kernel
theorem dX12_spotOf_10 : decode cX12_spotOf 10 = .ok (.getfield 299, 3) := by decide +kernel
theorem dX12_spotOf_13 : decode cX12_spotOf 13 = .ok (.getfield 207, 3) := by decide +kernel
theorem dX12_spotOf_16 : decode cX12_spotOf 16 = .ok (.idiv, 1) := by decide +kernel
theorem dX12_spotOf_17 : decode cX12_spotOf 17 = .ok (.ireturn, 1) := by decide +kernel
theorem dX12_spotOf_2 : decode cX12_spotOf 2 = .ok (.getfield 299, 3) := by decide +kernel
theorem dX12_spotOf_5 : decode cX12_spotOf 5 = .ok (.getfield 175, 3) := by decide +kernel
theorem dX12_spotOf_8 : decode cX12_spotOf 8 = .ok (.idiv, 1) := by decide +kernel
theorem dX12_spotOf_9 : decode cX12_spotOf 9 = .ok (.aload_n 0, 1) := by decide +kernel
def vfX12_spotOf : List Cond := List.cons (.code yX12_spotOf cX12_spotOf 2 (some .int)) (apW [.fieldLink RX12 299 "HookPierModel" "pier" "LHookPierModel$Pier;"] (apW wsX120 (wsX110)))
theorem ifX12_spotOf_X12 : ∀ w ∈ wsX120, w ∈ vfX12_spotOf := fun _ h => (List.mem_cons_of_mem _ (List.mem_append_right _ (List.mem_append_left _ h)))
theorem ifX12_spotOf_X11 : ∀ w ∈ wsX110, w ∈ vfX12_spotOf := fun _ h => (List.mem_cons_of_mem _ (List.mem_append_right _ (List.mem_append_right _ h)))
theorem qfX12_spotOf : Good vfX12_spotOf := gd_cons (by decide +kernel) (gd_app (gd_dec (by decide +kernel) : Good [.fieldLink RX12 299 "HookPierModel" "pier" "LHookPierModel$Pier;"]) (gd_app qsX12 qsX11))
set_option maxHeartbeats 2000000 in
set_option maxRecDepth 100000 in
theorem kfX12_spotOf (l : Launch) (dC : Nat → ClassId) (dI : Nat → Nat → Nat) (a0 : Nat) (k1 : Int32) (a2 : Nat) (uq : Nat → Nat) (kq : Nat → ClassId) (g5 : Value) (g6 : Value) (g7 : Value) (g8 : Value) (g9 : Value) (g10 : Value) (g11 : Value) (g12 : Value) (g13 : Value) (g14 : Value) (g15 : Value) (g16 : Value) (g17 : Value) (g18 : Value) (g19 : Value) (g20 : Value) (g21 : Value) (g22 : Value) (g23 : Value) (g24 : Value) (g25 : Value) (g26 : Value) (g27 : Value) (g28 : Value) (g29 : Value) (g30 : Value) (g31 : Value) (g32 : Value) (g33 : Value) (q_q : TX11_q) (sz : Nat) (out : Int32) (h : f_X12_spotOf k1 q_q = some out) : Met l yX12_spotOf vfX12_spotOf ({ frames := 0, cells := 0, slots := 0, locals := 0 }) (PC (dC, dI) [.ref a0, .int k1] sz ((a0, .inr (9, [g5, g6, g7, .ref a2, g8, g9, g10, g11, g12, g13, g14, g15, g16, g17, g18, g19, g20, g21, g22, g23, g24, g25, g26, g27, g28, g29, g30, g31, g32, g33])) :: bX11 a2 uq kq q_q []) (tX11 kq ([]))) (va_Qi (S := Unit) (fun (r : Int32) _ => r = out) (fun _ t => BC (dC, dI) (va_A ((a0, .inr (9, [g5, g6, g7, .ref a2, g8, g9, g10, g11, g12, g13, g14, g15, g16, g17, g18, g19, g20, g21, g22, g23, g24, g25, g26, g27, g28, g29, g30, g31, g32, g33])) :: bX11 a2 uq kq q_q []) sz) ((a0, .inr (9, [g5, g6, g7, .ref a2, g8, g9, g10, g11, g12, g13, g14, g15, g16, g17, g18, g19, g20, g21, g22, g23, g24, g25, g26, g27, g28, g29, g30, g31, g32, g33])) :: bX11 a2 uq kq q_q []) [] t) (va_A ((a0, .inr (9, [g5, g6, g7, .ref a2, g8, g9, g10, g11, g12, g13, g14, g15, g16, g17, g18, g19, g20, g21, g22, g23, g24, g25, g26, g27, g28, g29, g30, g31, g32, g33])) :: bX11 a2 uq kq q_q []) sz)) 0 0 (va_A ((a0, .inr (9, [g5, g6, g7, .ref a2, g8, g9, g10, g11, g12, g13, g14, g15, g16, g17, g18, g19, g20, g21, g22, g23, g24, g25, g26, g27, g28, g29, g30, g31, g32, g33])) :: bX11 a2 uq kq q_q []) sz) := by
  refine Met.ofW (cc := cX12_spotOf) (maxL := 2) (ret := (some .int)) (by decide) rfl ?_
  intro p e s m args below meth c s₁ B0 hml hv
  obtain ⟨rfl, hsz, hP, hK, hD0, hN⟩ := hv
  have hx := B0.exec
  have hb := B0.bytes
  have hr := B0.returns
  have hts := atoms_spec (ws := vfX12_spotOf) B0.pre
  have hown : s.vm.findClass RX12 = some m.cls := findClass_of_methodNamed B0.named
  have hlocks := B0.notSynchronized
  subst hsz
  have hD := hD0.self (sz := s.heap.size)
  generalize hAe : va_A ((a0, .inr (9, [g5, g6, g7, .ref a2, g8, g9, g10, g11, g12, g13, g14, g15, g16, g17, g18, g19, g20, g21, g22, g23, g24, g25, g26, g27, g28, g29, g30, g31, g32, g33])) :: bX11 a2 uq kq q_q []) s.heap.size = A at hD ⊢
  have hA : ∀ q : Nat, s.heap.size ≤ q → A q := fun q h => by rw [← hAe]; exact Or.inr h
  have hS : va_S A s.heap s.heap [] := va_S.rf
  have hP : va_P (dC, dI) vwCl ((a0, .inr (9, [g5, g6, g7, .ref a2, g8, g9, g10, g11, g12, g13, g14, g15, g16, g17, g18, g19, g20, g21, g22, g23, g24, g25, g26, g27, g28, g29, g30, g31, g32, g33])) :: bX11 a2 uq kq q_q []) s.heap := hP
  have hl := lv_entry ([.ref a0, .int k1]) (n := 2) (Nat.le_of_ble_eq_true rfl)
  rw [lg_entry_eq]
  generalize (lg_sl ([.ref a0, .int k1]) ++ List.replicate (2 - (lg_sl ([.ref a0, .int k1])).length) Slot.unset).toArray = ls at hl ⊢
  have hl : lv_has ls 2 [(0, .ref a0), (1, .int k1)] := hl
  refine W_q (fun QQ hQQ => ?_)
  rw [f_X12_spotOf] at h
  refine lv_iload_n hx hb dX12_spotOf_0 rfl (lv_at hl 1 rfl) ?_
  refine lv_aload_n hx hb dX12_spotOf_1 rfl (lv_at hl 0 rfl) ?_
  refine va_get (D := (dC, dI)) (ci := 9) (v := .ref a2) (C := RX12) (T := TX12) (N := 30) hx hb hts ifX12_spotOf_X12 hown hK hP 0 rfl rfl 3 (by decide) (hts (.fieldLink RX12 299 "HookPierModel" "pier" "LHookPierModel$Pier;") (List.mem_of_getElem? (i := 1) rfl)) (fun _ h9 => h9) rfl dX12_spotOf_2 ?_
  refine va_getN (D := (dC, dI)) (ci := 8) (v := .int q_q.2.2.2.2.1) (C := RX11) (T := TX11) (N := 24) hx hb hts ifX12_spotOf_X11 hown hK hP 1 rfl rfl 4 (by decide) (va_Nw.use rfl (hN.1 (.fieldLinkNest RX12 175 "HookPierModel$Pier" "baits" "I" "HookPierModel") (List.mem_of_getElem? (i := 26) rfl))) (fun _ h9 => h9) rfl dX12_spotOf_5 ?_
  obtain ⟨hg8, h⟩ := gZi_of h
  refine lv_idiv hx hb dX12_spotOf_8 hg8 ?_
  refine lv_aload_n hx hb dX12_spotOf_9 rfl (lv_at hl 0 rfl) ?_
  refine va_get (D := (dC, dI)) (ci := 9) (v := .ref a2) (C := RX12) (T := TX12) (N := 30) hx hb hts ifX12_spotOf_X12 hown hK hP 0 rfl rfl 3 (by decide) (hts (.fieldLink RX12 299 "HookPierModel" "pier" "LHookPierModel$Pier;") (List.mem_of_getElem? (i := 1) rfl)) (fun _ h9 => h9) rfl dX12_spotOf_10 ?_
  refine va_getN (D := (dC, dI)) (ci := 8) (v := .int q_q.2.1) (C := RX11) (T := TX11) (N := 24) hx hb hts ifX12_spotOf_X11 hown hK hP 1 rfl rfl 1 (by decide) (va_Nw.use rfl (hN.1 (.fieldLinkNest RX12 207 "HookPierModel$Pier" "deep" "I" "HookPierModel") (List.mem_of_getElem? (i := 23) rfl))) (fun _ h9 => h9) rfl dX12_spotOf_13 ?_
  obtain ⟨hg16, h⟩ := gZi_of h
  refine lv_idiv hx hb dX12_spotOf_16 hg16 ?_
  obtain rfl := Option.some.inj h
  have hP9 := hP.sub (ws' := ((a0, .inr (9, [g5, g6, g7, .ref a2, g8, g9, g10, g11, g12, g13, g14, g15, g16, g17, g18, g19, g20, g21, g22, g23, g24, g25, g26, g27, g28, g29, g30, g31, g32, g33])) :: bX11 a2 uq kq q_q [])) [0, 1, 2, 3, 4, 5, 6, 7, 8, 9, 10, 11, 12, 13, 14, 15] rfl
  have hD9 := hD.sub (ws' := ((a0, .inr (9, [g5, g6, g7, .ref a2, g8, g9, g10, g11, g12, g13, g14, g15, g16, g17, g18, g19, g20, g21, g22, g23, g24, g25, g26, g27, g28, g29, g30, g31, g32, g33])) :: bX11 a2 uq kq q_q [])) [0, 1, 2, 3, 4, 5, 6, 7, 8, 9, 10, 11, 12, 13, 14, 15] (by decide) rfl
  have hK9 := hK.sub (tys' := []) [] rfl
  rw [hQQ]
  exact W.iret (v := ((k1 / q_q.2.2.2.2.1) / q_q.2.1)) hx hb hr (fun t ht hW => ⟨⟨((k1 / q_q.2.2.2.2.1) / q_q.2.1), (), rfl, rfl, by rw [ht]; exact hP9, va_K.moved hW.alike hK9, hD9⟩, hS.F ht⟩) hS.2.2 dX12_spotOf_17
theorem dX12_apart_0 : decode cX12_apart 0 = .ok (.iload_n 0, 1) := by decide +kernel
theorem dX12_apart_1 : decode cX12_apart 1 = .ok (.iload_n 1, 1) := by decide +kernel
theorem dX12_apart_11 : decode cX12_apart 11 = .ok (.iload_n 0, 1) := by decide +kernel
theorem dX12_apart_12 : decode cX12_apart 12 = .ok (.iload_n 1, 1) := by decide +kernel
theorem dX12_apart_13 : decode cX12_apart 13 = .ok (.isub, 1) := by decide +kernel
theorem dX12_apart_14 : decode cX12_apart 14 = .ok (.ireturn, 1) := by decide +kernel
theorem dX12_apart_2 : decode cX12_apart 2 = .ok (.if_icmp .ge 9, 3) := by decide +kernel
theorem dX12_apart_5 : decode cX12_apart 5 = .ok (.iload_n 1, 1) := by decide +kernel
theorem dX12_apart_6 : decode cX12_apart 6 = .ok (.iload_n 0, 1) := by decide +kernel
theorem dX12_apart_7 : decode cX12_apart 7 = .ok (.isub, 1) := by decide +kernel
theorem dX12_apart_8 : decode cX12_apart 8 = .ok (.goto 6, 3) := by decide +kernel
def vfX12_apart : List Cond := .code yX12_apart cX12_apart 2 (some .int) :: ([])
theorem qfX12_apart : Good vfX12_apart := gd_cons (by decide +kernel) (gd_dec (by decide +kernel) : Good [])
set_option maxHeartbeats 2000000 in
set_option maxRecDepth 100000 in
theorem kfX12_apart (l : Launch) (dC : Nat → ClassId) (dI : Nat → Nat → Nat) (k0 : Int32) (k1 : Int32) (sz : Nat) (out : Int32) (h : f_X12_apart k0 k1 = out) : Met l yX12_apart vfX12_apart ({ frames := 0, cells := 0, slots := 0, locals := 0 }) (PC (dC, dI) [.int k0, .int k1] sz [] ([])) (va_Qi (S := Unit) (fun (r : Int32) _ => r = out) (fun _ t => BC (dC, dI) (va_A [] sz) [] [] t) (va_A [] sz)) 0 0 (va_A [] sz) := by
  refine Met.ofW (cc := cX12_apart) (maxL := 2) (ret := (some .int)) (by decide) rfl ?_
  intro p e s m args below meth c s₁ B0 hml hv
  obtain ⟨rfl, hsz, hP, hK, hD0, hN⟩ := hv
  have hx := B0.exec
  have hb := B0.bytes
  have hr := B0.returns
  have hts := atoms_spec (ws := vfX12_apart) B0.pre
  have hown : s.vm.findClass RX12 = some m.cls := findClass_of_methodNamed B0.named
  have hlocks := B0.notSynchronized
  subst hsz
  have hD := hD0.self (sz := s.heap.size)
  generalize hAe : va_A [] s.heap.size = A at hD ⊢
  have hA : ∀ q : Nat, s.heap.size ≤ q → A q := fun q h => by rw [← hAe]; exact Or.inr h
  have hS : va_S A s.heap s.heap [] := va_S.rf
  have hP : va_P (dC, dI) vwCl [] s.heap := hP
  have hl := lv_entry ([.int k0, .int k1]) (n := 2) (Nat.le_of_ble_eq_true rfl)
  rw [lg_entry_eq]
  generalize (lg_sl ([.int k0, .int k1]) ++ List.replicate (2 - (lg_sl ([.int k0, .int k1])).length) Slot.unset).toArray = ls at hl ⊢
  have hl : lv_has ls 2 [(0, .int k0), (1, .int k1)] := hl
  refine W_q (fun QQ hQQ => ?_)
  rw [f_X12_apart] at h
  refine lv_iload_n hx hb dX12_apart_0 rfl (lv_at hl 0 rfl) ?_
  refine lv_iload_n hx hb dX12_apart_1 rfl (lv_at hl 1 rfl) ?_
  refine lv_icmp_ge (tgt := 11) hx hb dX12_apart_2 (by decide) (fun c2 => ?_) (fun c2 => ?_)
  · have h := (if_pos c2).symm.trans h
    refine lv_iload_n hx hb dX12_apart_11 rfl (lv_at hl 0 rfl) ?_
    refine lv_iload_n hx hb dX12_apart_12 rfl (lv_at hl 1 rfl) ?_
    refine lv_isub hx hb dX12_apart_13 ?_
    obtain rfl := h
    have hP9 := hP.sub (ws' := []) [] rfl
    have hD9 := hD.sub (ws' := []) [] (by decide) rfl
    have hK9 := hK.sub (tys' := []) [] rfl
    rw [hQQ]
    exact W.iret (v := (k0 - k1)) hx hb hr (fun t ht hW => ⟨⟨(k0 - k1), (), rfl, rfl, by rw [ht]; exact hP9, va_K.moved hW.alike hK9, hD9⟩, hS.F ht⟩) hS.2.2 dX12_apart_14
  · have h := (if_neg c2).symm.trans h
    refine lv_iload_n hx hb dX12_apart_5 rfl (lv_at hl 1 rfl) ?_
    refine lv_iload_n hx hb dX12_apart_6 rfl (lv_at hl 0 rfl) ?_
    refine lv_isub hx hb dX12_apart_7 ?_
    refine lv_goto (tgt := 14) hx hb dX12_apart_8 (by decide) ?_
    obtain rfl := h
    have hP9 := hP.sub (ws' := []) [] rfl
    have hD9 := hD.sub (ws' := []) [] (by decide) rfl
    have hK9 := hK.sub (tys' := []) [] rfl
    rw [hQQ]
    exact W.iret (v := (k1 - k0)) hx hb hr (fun t ht hW => ⟨⟨(k1 - k0), (), rfl, rfl, by rw [ht]; exact hP9, va_K.moved hW.alike hK9, hD9⟩, hS.F ht⟩) hS.2.2 dX12_apart_14
theorem dX12_areTangled_0 : decode cX12_areTangled 0 = .ok (.iload_n 2, 1) := by decide +kernel
theorem dX12_areTangled_1 : decode cX12_areTangled 1 = .ok (.iload 4, 2) := by decide +kernel
theorem dX12_areTangled_10 : decode cX12_areTangled 10 = .ok (.getfield 229, 3) := by decide +kernel
theorem dX12_areTangled_13 : decode cX12_areTangled 13 = .ok (.iload_n 1, 1) := by decide +kernel
theorem dX12_areTangled_14 : decode cX12_areTangled 14 = .ok (.iaload, 1) := by decide +kernel
theorem dX12_areTangled_15 : decode cX12_areTangled 15 = .ok (.aload_n 0, 1) := by decide +kernel
theorem dX12_areTangled_16 : decode cX12_areTangled 16 = .ok (.getfield 299, 3) := by decide +kernel
theorem dX12_areTangled_19 : decode cX12_areTangled 19 = .ok (.getfield 229, 3) := by decide +kernel
theorem dX12_areTangled_22 : decode cX12_areTangled 22 = .ok (.iload_n 3, 1) := by decide +kernel
theorem dX12_areTangled_23 : decode cX12_areTangled 23 = .ok (.iaload, 1) := by decide +kernel
theorem dX12_areTangled_24 : decode cX12_areTangled 24 = .ok (.iadd, 1) := by decide +kernel
theorem dX12_areTangled_25 : decode cX12_areTangled 25 = .ok (.if_icmp .gt 7, 3) := by decide +kernel
theorem dX12_areTangled_28 : decode cX12_areTangled 28 = .ok (.iconst 1, 1) := by decide +kernel
theorem dX12_areTangled_29 : decode cX12_areTangled 29 = .ok (.goto 4, 3) := by decide +kernel
theorem dX12_areTangled_3 : decode cX12_areTangled 3 = .ok (.invokestatic 327, 3) := by decide +kernel
theorem dX12_areTangled_32 : decode cX12_areTangled 32 = .ok (.iconst 0, 1) := by decide +kernel
theorem dX12_areTangled_33 : decode cX12_areTangled 33 = .ok (.ireturn, 1) := by decide +kernel
theorem dX12_areTangled_6 : decode cX12_areTangled 6 = .ok (.aload_n 0, 1) := by decide +kernel
theorem dX12_areTangled_7 : decode cX12_areTangled 7 = .ok (.getfield 299, 3) := by decide +kernel
def vfX12_areTangled : List Cond := List.cons (.code yX12_areTangled cX12_areTangled 5 (some .boolean)) (apW [.methodLink RX12 327 yX12_apart, .static yX12_apart, .initialized RX12, .fieldLink RX12 299 "HookPierModel" "pier" "LHookPierModel$Pier;"] (apW wsX120 (apW wsX110 (vfX12_apart))))
theorem ifX12_areTangled_X12 : ∀ w ∈ wsX120, w ∈ vfX12_areTangled := fun _ h => (List.mem_cons_of_mem _ (List.mem_append_right _ (List.mem_append_left _ h)))
theorem ifX12_areTangled_X11 : ∀ w ∈ wsX110, w ∈ vfX12_areTangled := fun _ h => (List.mem_cons_of_mem _ (List.mem_append_right _ (List.mem_append_right _ (List.mem_append_left _ h))))
theorem qfX12_areTangled : Good vfX12_areTangled := gd_cons (by decide +kernel) (gd_app (gd_dec (by decide +kernel) : Good [.methodLink RX12 327 yX12_apart, .static yX12_apart, .initialized RX12, .fieldLink RX12 299 "HookPierModel" "pier" "LHookPierModel$Pier;"]) (gd_app qsX12 (gd_app qsX11 qfX12_apart)))
theorem gfX12_areTangled_0 : GoodIn vfX12_areTangled (va_wsS RX12 327 yX12_apart vfX12_apart) := goodIn_app (goodIn_r [.methodLink RX12 327 yX12_apart, .static yX12_apart, .initialized RX12] [1, 2, 3] rfl (by decide +kernel)) (goodIn_m (fun _ h => (List.mem_cons_of_mem _ (List.mem_append_right _ (List.mem_append_right _ (List.mem_append_right _ h))))) qfX12_apart)
set_option maxHeartbeats 2000000 in
set_option maxRecDepth 100000 in
theorem kfX12_areTangled (l : Launch) (dC : Nat → ClassId) (dI : Nat → Nat → Nat) (a0 : Nat) (k1 : Int32) (k2 : Int32) (k3 : Int32) (k4 : Int32) (a5 : Nat) (uq : Nat → Nat) (kq : Nat → ClassId) (g8 : Value) (g9 : Value) (g10 : Value) (g11 : Value) (g12 : Value) (g13 : Value) (g14 : Value) (g15 : Value) (g16 : Value) (g17 : Value) (g18 : Value) (g19 : Value) (g20 : Value) (g21 : Value) (g22 : Value) (g23 : Value) (g24 : Value) (g25 : Value) (g26 : Value) (g27 : Value) (g28 : Value) (g29 : Value) (g30 : Value) (g31 : Value) (g32 : Value) (g33 : Value) (g34 : Value) (g35 : Value) (g36 : Value) (q_q : TX11_q) (sz : Nat) (out : Int32) (h : f_X12_areTangled k1 k2 k3 k4 q_q = some out) : Met l yX12_areTangled vfX12_areTangled ({ frames := 1, cells := 0, slots := 0, locals := 21 }) (PC (dC, dI) [.ref a0, .int k1, .int k2, .int k3, .int k4] sz ((a0, .inr (9, [g8, g9, g10, .ref a5, g11, g12, g13, g14, g15, g16, g17, g18, g19, g20, g21, g22, g23, g24, g25, g26, g27, g28, g29, g30, g31, g32, g33, g34, g35, g36])) :: bX11 a5 uq kq q_q []) (tX11 kq ([]))) (va_Qi (S := Unit) (fun (r : Int32) _ => r = out ∧ (0 ≤ r.toInt ∧ r.toInt ≤ 1)) (fun _ t => BC (dC, dI) (va_A ((a0, .inr (9, [g8, g9, g10, .ref a5, g11, g12, g13, g14, g15, g16, g17, g18, g19, g20, g21, g22, g23, g24, g25, g26, g27, g28, g29, g30, g31, g32, g33, g34, g35, g36])) :: bX11 a5 uq kq q_q []) sz) ((a0, .inr (9, [g8, g9, g10, .ref a5, g11, g12, g13, g14, g15, g16, g17, g18, g19, g20, g21, g22, g23, g24, g25, g26, g27, g28, g29, g30, g31, g32, g33, g34, g35, g36])) :: bX11 a5 uq kq q_q []) [] t) (va_A ((a0, .inr (9, [g8, g9, g10, .ref a5, g11, g12, g13, g14, g15, g16, g17, g18, g19, g20, g21, g22, g23, g24, g25, g26, g27, g28, g29, g30, g31, g32, g33, g34, g35, g36])) :: bX11 a5 uq kq q_q []) sz)) 0 0 (va_A ((a0, .inr (9, [g8, g9, g10, .ref a5, g11, g12, g13, g14, g15, g16, g17, g18, g19, g20, g21, g22, g23, g24, g25, g26, g27, g28, g29, g30, g31, g32, g33, g34, g35, g36])) :: bX11 a5 uq kq q_q []) sz) := by
  refine Met.ofW (cc := cX12_areTangled) (maxL := 5) (ret := (some .boolean)) (by decide) rfl ?_
  intro p e s m args below meth c s₁ B0 hml hv
  obtain ⟨rfl, hsz, hP, hK, hD0, hN⟩ := hv
  have hx := B0.exec
  have hb := B0.bytes
  have hr := B0.returns
  have hts := atoms_spec (ws := vfX12_areTangled) B0.pre
  have hown : s.vm.findClass RX12 = some m.cls := findClass_of_methodNamed B0.named
  have hlocks := B0.notSynchronized
  subst hsz
  have hD := hD0.self (sz := s.heap.size)
  generalize hAe : va_A ((a0, .inr (9, [g8, g9, g10, .ref a5, g11, g12, g13, g14, g15, g16, g17, g18, g19, g20, g21, g22, g23, g24, g25, g26, g27, g28, g29, g30, g31, g32, g33, g34, g35, g36])) :: bX11 a5 uq kq q_q []) s.heap.size = A at hD ⊢
  have hA : ∀ q : Nat, s.heap.size ≤ q → A q := fun q h => by rw [← hAe]; exact Or.inr h
  have hS : va_S A s.heap s.heap [] := va_S.rf
  have hP : va_P (dC, dI) vwCl ((a0, .inr (9, [g8, g9, g10, .ref a5, g11, g12, g13, g14, g15, g16, g17, g18, g19, g20, g21, g22, g23, g24, g25, g26, g27, g28, g29, g30, g31, g32, g33, g34, g35, g36])) :: bX11 a5 uq kq q_q []) s.heap := hP
  have hl := lv_entry ([.ref a0, .int k1, .int k2, .int k3, .int k4]) (n := 5) (Nat.le_of_ble_eq_true rfl)
  rw [lg_entry_eq]
  generalize (lg_sl ([.ref a0, .int k1, .int k2, .int k3, .int k4]) ++ List.replicate (5 - (lg_sl ([.ref a0, .int k1, .int k2, .int k3, .int k4])).length) Slot.unset).toArray = ls at hl ⊢
  have hl : lv_has ls 5 [(0, .ref a0), (1, .int k1), (2, .int k2), (3, .int k3), (4, .int k4)] := hl
  refine W_q (fun QQ hQQ => ?_)
  rw [f_X12_areTangled] at h
  refine lv_iload_n hx hb dX12_areTangled_0 rfl (lv_at hl 2 rfl) ?_
  refine lv_iload hx hb dX12_areTangled_1 (lv_at hl 4 rfl) ?_
  obtain ⟨o3, eo3⟩ : ∃ o, o = f_X12_apart k2 k4 := ⟨_, rfl⟩
  have h := nm_of h o3 eo3
  refine cl_i (wc := []) (wr := ((a0, .inr (9, [g8, g9, g10, .ref a5, g11, g12, g13, g14, g15, g16, g17, g18, g19, g20, g21, g22, g23, g24, g25, g26, g27, g28, g29, g30, g31, g32, g33, g34, g35, g36])) :: bX11 a5 uq kq q_q [])) (va_runS (As := [.int k2, .int k4]) (rest := []) ⟨hx, hb, hml, hown, hts⟩ (kfX12_apart l dC dI k2 k4 s.heap.size o3 eo3.symm) (va_cwS 2 hts gfX12_areTangled_0 rfl rfl rfl (by decide +kernel) ⟨(Nat.le_of_ble_eq_true rfl), (Nat.le_of_ble_eq_true rfl)⟩) (PS (hP.sub (ws' := []) [] rfl) (hK.sub (tys' := ([])) [] rfl) (hD.sub (ws' := []) [] (by decide) rfl) hN) rfl rfl hl.1 rfl (lv_room (Nat.le_of_ble_eq_true rfl)) dX12_areTangled_3 ⟨(Nat.le_of_ble_eq_true rfl), (Nat.le_of_ble_eq_true rfl)⟩) hP hD hK hS hA [] [0, 1, 2, 3, 4, 5, 6, 7, 8, 9, 10, 11, 12, 13, 14, 15] rfl rfl (by decide) (by decide) (fun r3 _ H locs hw hP hD _ hS => ?_)
  obtain rfl := hw.symm
  have hP : va_P (dC, dI) vwCl ((a0, .inr (9, [g8, g9, g10, .ref a5, g11, g12, g13, g14, g15, g16, g17, g18, g19, g20, g21, g22, g23, g24, g25, g26, g27, g28, g29, g30, g31, g32, g33, g34, g35, g36])) :: bX11 a5 uq kq q_q []) H := hP
  have hD : va_D A ((a0, .inr (9, [g8, g9, g10, .ref a5, g11, g12, g13, g14, g15, g16, g17, g18, g19, g20, g21, g22, g23, g24, g25, g26, g27, g28, g29, g30, g31, g32, g33, g34, g35, g36])) :: bX11 a5 uq kq q_q []) := hD
  refine lv_aload_n hx hb dX12_areTangled_6 rfl (lv_at hl 0 rfl) ?_
  refine va_get (D := (dC, dI)) (ci := 9) (v := .ref a5) (C := RX12) (T := TX12) (N := 30) hx hb hts ifX12_areTangled_X12 hown hK hP 0 rfl rfl 3 (by decide) (hts (.fieldLink RX12 299 "HookPierModel" "pier" "LHookPierModel$Pier;") (List.mem_of_getElem? (i := 4) rfl)) (fun _ h9 => h9) rfl dX12_areTangled_7 ?_
  refine va_getN (D := (dC, dI)) (ci := 8) (v := .ref (uq 0)) (C := RX11) (T := TX11) (N := 24) hx hb hts ifX12_areTangled_X11 hown hK hP 1 rfl rfl 10 (by decide) (va_Nw.use rfl (hN.1 (.fieldLinkNest RX12 229 "HookPierModel$Pier" "reach" "[I" "HookPierModel") (List.mem_of_getElem? (i := 32) rfl))) (fun _ h9 => h9) rfl dX12_areTangled_10 ?_
  refine lv_iload_n hx hb dX12_areTangled_13 rfl (lv_at hl 1 rfl) ?_
  obtain ⟨hg14, h⟩ := gA_of h
  refine va_iald hx hb hK hP 2 0 rfl rfl hg14 dX12_areTangled_14 ?_
  refine lv_aload_n hx hb dX12_areTangled_15 rfl (lv_at hl 0 rfl) ?_
  refine va_get (D := (dC, dI)) (ci := 9) (v := .ref a5) (C := RX12) (T := TX12) (N := 30) hx hb hts ifX12_areTangled_X12 hown hK hP 0 rfl rfl 3 (by decide) (hts (.fieldLink RX12 299 "HookPierModel" "pier" "LHookPierModel$Pier;") (List.mem_of_getElem? (i := 4) rfl)) (fun _ h9 => h9) rfl dX12_areTangled_16 ?_
  refine va_getN (D := (dC, dI)) (ci := 8) (v := .ref (uq 0)) (C := RX11) (T := TX11) (N := 24) hx hb hts ifX12_areTangled_X11 hown hK hP 1 rfl rfl 10 (by decide) (va_Nw.use rfl (hN.1 (.fieldLinkNest RX12 229 "HookPierModel$Pier" "reach" "[I" "HookPierModel") (List.mem_of_getElem? (i := 32) rfl))) (fun _ h9 => h9) rfl dX12_areTangled_19 ?_
  refine lv_iload_n hx hb dX12_areTangled_22 rfl (lv_at hl 3 rfl) ?_
  obtain ⟨hg23, h⟩ := gA_of h
  refine va_iald hx hb hK hP 2 0 rfl rfl hg23 dX12_areTangled_23 ?_
  refine lv_iadd hx hb dX12_areTangled_24 ?_
  refine lv_topi (fun z24 ez24 => ?_)
  have h := nm_of h z24 ez24
  refine lv_icmp_gt (tgt := 32) hx hb dX12_areTangled_25 (by decide) (fun c25 => ?_) (fun c25 => ?_)
  · have h := (if_pos c25).symm.trans h
    refine lv_iconst (v := 0) hx hb dX12_areTangled_32 (by decide) ?_
    obtain rfl := Option.some.inj h
    have hP9 := hP.sub (ws' := ((a0, .inr (9, [g8, g9, g10, .ref a5, g11, g12, g13, g14, g15, g16, g17, g18, g19, g20, g21, g22, g23, g24, g25, g26, g27, g28, g29, g30, g31, g32, g33, g34, g35, g36])) :: bX11 a5 uq kq q_q [])) [0, 1, 2, 3, 4, 5, 6, 7, 8, 9, 10, 11, 12, 13, 14, 15] rfl
    have hD9 := hD.sub (ws' := ((a0, .inr (9, [g8, g9, g10, .ref a5, g11, g12, g13, g14, g15, g16, g17, g18, g19, g20, g21, g22, g23, g24, g25, g26, g27, g28, g29, g30, g31, g32, g33, g34, g35, g36])) :: bX11 a5 uq kq q_q [])) [0, 1, 2, 3, 4, 5, 6, 7, 8, 9, 10, 11, 12, 13, 14, 15] (by decide) rfl
    have hK9 := hK.sub (tys' := []) [] rfl
    rw [hQQ]
    exact W.zret (v := (0 : Int32)) hx hb hr rfl (fun t ht hW => ⟨⟨(0 : Int32), (), rfl, ⟨rfl, (by decide)⟩, by rw [ht]; exact hP9, va_K.moved hW.alike hK9, hD9⟩, hS.F ht⟩) hS.2.2 dX12_areTangled_33
  · have h := (if_neg c25).symm.trans h
    refine lv_iconst (v := 1) hx hb dX12_areTangled_28 (by decide) ?_
    refine lv_goto (tgt := 33) hx hb dX12_areTangled_29 (by decide) ?_
    obtain rfl := Option.some.inj h
    have hP9 := hP.sub (ws' := ((a0, .inr (9, [g8, g9, g10, .ref a5, g11, g12, g13, g14, g15, g16, g17, g18, g19, g20, g21, g22, g23, g24, g25, g26, g27, g28, g29, g30, g31, g32, g33, g34, g35, g36])) :: bX11 a5 uq kq q_q [])) [0, 1, 2, 3, 4, 5, 6, 7, 8, 9, 10, 11, 12, 13, 14, 15] rfl
    have hD9 := hD.sub (ws' := ((a0, .inr (9, [g8, g9, g10, .ref a5, g11, g12, g13, g14, g15, g16, g17, g18, g19, g20, g21, g22, g23, g24, g25, g26, g27, g28, g29, g30, g31, g32, g33, g34, g35, g36])) :: bX11 a5 uq kq q_q [])) [0, 1, 2, 3, 4, 5, 6, 7, 8, 9, 10, 11, 12, 13, 14, 15] (by decide) rfl
    have hK9 := hK.sub (tys' := []) [] rfl
    rw [hQQ]
    exact W.zret (v := (1 : Int32)) hx hb hr rfl (fun t ht hW => ⟨⟨(1 : Int32), (), rfl, ⟨rfl, (by decide)⟩, by rw [ht]; exact hP9, va_K.moved hW.alike hK9, hD9⟩, hS.F ht⟩) hS.2.2 dX12_areTangled_33
theorem dX12_isTangled_0 : decode cX12_isTangled 0 = .ok (.iconst 0, 1) := by decide +kernel
theorem dX12_isTangled_1 : decode cX12_isTangled 1 = .ok (.istore_n 3, 1) := by decide +kernel
theorem dX12_isTangled_10 : decode cX12_isTangled 10 = .ok (.if_icmp .ge 56, 3) := by decide +kernel
theorem dX12_isTangled_13 : decode cX12_isTangled 13 = .ok (.iload_n 3, 1) := by decide +kernel
theorem dX12_isTangled_14 : decode cX12_isTangled 14 = .ok (.iload_n 2, 1) := by decide +kernel
theorem dX12_isTangled_15 : decode cX12_isTangled 15 = .ok (.if_icmp .eq 45, 3) := by decide +kernel
theorem dX12_isTangled_18 : decode cX12_isTangled 18 = .ok (.aload_n 1, 1) := by decide +kernel
theorem dX12_isTangled_19 : decode cX12_isTangled 19 = .ok (.bipush 18, 2) := by decide +kernel
theorem dX12_isTangled_2 : decode cX12_isTangled 2 = .ok (.iload_n 3, 1) := by decide +kernel
theorem dX12_isTangled_21 : decode cX12_isTangled 21 = .ok (.iload_n 3, 1) := by decide +kernel
theorem dX12_isTangled_22 : decode cX12_isTangled 22 = .ok (.iadd, 1) := by decide +kernel
theorem dX12_isTangled_23 : decode cX12_isTangled 23 = .ok (.iaload, 1) := by decide +kernel
theorem dX12_isTangled_24 : decode cX12_isTangled 24 = .ok (.bipush (-2), 2) := by decide +kernel
theorem dX12_isTangled_26 : decode cX12_isTangled 26 = .ok (.if_icmp .eq 34, 3) := by decide +kernel
theorem dX12_isTangled_29 : decode cX12_isTangled 29 = .ok (.aload_n 0, 1) := by decide +kernel
theorem dX12_isTangled_3 : decode cX12_isTangled 3 = .ok (.aload_n 0, 1) := by decide +kernel
theorem dX12_isTangled_30 : decode cX12_isTangled 30 = .ok (.iload_n 2, 1) := by decide +kernel
theorem dX12_isTangled_31 : decode cX12_isTangled 31 = .ok (.aload_n 0, 1) := by decide +kernel
theorem dX12_isTangled_32 : decode cX12_isTangled 32 = .ok (.aload_n 1, 1) := by decide +kernel
theorem dX12_isTangled_33 : decode cX12_isTangled 33 = .ok (.bipush 18, 2) := by decide +kernel
theorem dX12_isTangled_35 : decode cX12_isTangled 35 = .ok (.iload_n 2, 1) := by decide +kernel
theorem dX12_isTangled_36 : decode cX12_isTangled 36 = .ok (.iadd, 1) := by decide +kernel
theorem dX12_isTangled_37 : decode cX12_isTangled 37 = .ok (.iaload, 1) := by decide +kernel
theorem dX12_isTangled_38 : decode cX12_isTangled 38 = .ok (.invokevirtual 307, 3) := by decide +kernel
theorem dX12_isTangled_4 : decode cX12_isTangled 4 = .ok (.getfield 299, 3) := by decide +kernel
theorem dX12_isTangled_41 : decode cX12_isTangled 41 = .ok (.iload_n 3, 1) := by decide +kernel
theorem dX12_isTangled_42 : decode cX12_isTangled 42 = .ok (.aload_n 0, 1) := by decide +kernel
theorem dX12_isTangled_43 : decode cX12_isTangled 43 = .ok (.aload_n 1, 1) := by decide +kernel
theorem dX12_isTangled_44 : decode cX12_isTangled 44 = .ok (.bipush 18, 2) := by decide +kernel
theorem dX12_isTangled_46 : decode cX12_isTangled 46 = .ok (.iload_n 3, 1) := by decide +kernel
theorem dX12_isTangled_47 : decode cX12_isTangled 47 = .ok (.iadd, 1) := by decide +kernel
theorem dX12_isTangled_48 : decode cX12_isTangled 48 = .ok (.iaload, 1) := by decide +kernel
theorem dX12_isTangled_49 : decode cX12_isTangled 49 = .ok (.invokevirtual 307, 3) := by decide +kernel
theorem dX12_isTangled_52 : decode cX12_isTangled 52 = .ok (.invokevirtual 330, 3) := by decide +kernel
theorem dX12_isTangled_55 : decode cX12_isTangled 55 = .ok (.ifCond .eq 5, 3) := by decide +kernel
theorem dX12_isTangled_58 : decode cX12_isTangled 58 = .ok (.iconst 1, 1) := by decide +kernel
theorem dX12_isTangled_59 : decode cX12_isTangled 59 = .ok (.ireturn, 1) := by decide +kernel
theorem dX12_isTangled_60 : decode cX12_isTangled 60 = .ok (.iinc 3 1, 3) := by decide +kernel
theorem dX12_isTangled_63 : decode cX12_isTangled 63 = .ok (.goto (-61), 3) := by decide +kernel
theorem dX12_isTangled_66 : decode cX12_isTangled 66 = .ok (.iconst 0, 1) := by decide +kernel
theorem dX12_isTangled_67 : decode cX12_isTangled 67 = .ok (.ireturn, 1) := by decide +kernel
theorem dX12_isTangled_7 : decode cX12_isTangled 7 = .ok (.getfield 224, 3) := by decide +kernel
def vfX12_isTangled : List Cond := List.cons (.code yX12_isTangled cX12_isTangled 4 (some .boolean)) (apW [.fieldLink RX12 299 "HookPierModel" "pier" "LHookPierModel$Pier;", .methodLink RX12 307 yX12_spotOf, .instanceMethod yX12_spotOf, .selects RX12 yX12_spotOf yX12_spotOf, .initialized RX12, .methodLink RX12 330 yX12_areTangled, .instanceMethod yX12_areTangled, .selects RX12 yX12_areTangled yX12_areTangled] (apW wsX120 (apW wsX110 (apW vfX12_spotOf (vfX12_areTangled)))))
theorem ifX12_isTangled_X12 : ∀ w ∈ wsX120, w ∈ vfX12_isTangled := fun _ h => (List.mem_cons_of_mem _ (List.mem_append_right _ (List.mem_append_left _ h)))
theorem ifX12_isTangled_X11 : ∀ w ∈ wsX110, w ∈ vfX12_isTangled := fun _ h => (List.mem_cons_of_mem _ (List.mem_append_right _ (List.mem_append_right _ (List.mem_append_left _ h))))
theorem qfX12_isTangled : Good vfX12_isTangled := gd_cons (by decide +kernel) (gd_app (gd_dec (by decide +kernel) : Good [.fieldLink RX12 299 "HookPierModel" "pier" "LHookPierModel$Pier;", .methodLink RX12 307 yX12_spotOf, .instanceMethod yX12_spotOf, .selects RX12 yX12_spotOf yX12_spotOf, .initialized RX12, .methodLink RX12 330 yX12_areTangled, .instanceMethod yX12_areTangled, .selects RX12 yX12_areTangled yX12_areTangled]) (gd_app qsX12 (gd_app qsX11 (gd_app qfX12_spotOf qfX12_areTangled))))
theorem gfX12_isTangled_0 : GoodIn vfX12_isTangled (wsV RX12 307 RX12 yX12_spotOf vfX12_spotOf) := goodIn_app (goodIn_r [.methodLink RX12 307 yX12_spotOf, .instanceMethod yX12_spotOf, .selects RX12 yX12_spotOf yX12_spotOf, .initialized RX12] [2, 3, 4, 5] rfl (by decide +kernel)) (goodIn_m (fun _ h => (List.mem_cons_of_mem _ (List.mem_append_right _ (List.mem_append_right _ (List.mem_append_right _ (List.mem_append_left _ h)))))) qfX12_spotOf)
theorem gfX12_isTangled_1 : GoodIn vfX12_isTangled (wsV RX12 330 RX12 yX12_areTangled vfX12_areTangled) := goodIn_app (goodIn_r [.methodLink RX12 330 yX12_areTangled, .instanceMethod yX12_areTangled, .selects RX12 yX12_areTangled yX12_areTangled, .initialized RX12] [6, 7, 8, 5] rfl (by decide +kernel)) (goodIn_m (fun _ h => (List.mem_cons_of_mem _ (List.mem_append_right _ (List.mem_append_right _ (List.mem_append_right _ (List.mem_append_right _ h)))))) qfX12_areTangled)
set_option maxHeartbeats 2000000 in
set_option maxRecDepth 100000 in
theorem kfX12_isTangled (l : Launch) (dC : Nat → ClassId) (dI : Nat → Nat → Nat) (a0 : Nat) (a1 : Nat) (k2 : Int32) (a3 : Nat) (uq : Nat → Nat) (kq : Nat → ClassId) (m_v : TX12_v) (g7 : Value) (g8 : Value) (g9 : Value) (g10 : Value) (g11 : Value) (g12 : Value) (g13 : Value) (g14 : Value) (g15 : Value) (g16 : Value) (g17 : Value) (g18 : Value) (g19 : Value) (g20 : Value) (g21 : Value) (g22 : Value) (g23 : Value) (g24 : Value) (g25 : Value) (g26 : Value) (g27 : Value) (g28 : Value) (g29 : Value) (g30 : Value) (g31 : Value) (g32 : Value) (g33 : Value) (g34 : Value) (q_q : TX11_q) (cB36 : ClassId) (sz : Nat) (out : Int32) (h : f_X12_isTangled k2 m_v q_q = some out) : Met l yX12_isTangled vfX12_isTangled ({ frames := 2, cells := 0, slots := 0, locals := 45 }) (PC (dC, dI) [.ref a0, .ref a1, .int k2] sz ((a0, .inr (9, [g7, g8, g9, .ref a3, g10, g11, g12, g13, g14, g15, g16, g17, g18, g19, g20, .ref a1, g21, g22, g23, g24, g25, g26, g27, g28, g29, g30, g31, g32, g33, g34])) :: bX11 a3 uq kq q_q ([(a1, .inl (cB36, 26, .inl m_v))])) (tX11 kq ((cB36, .int) :: []))) (va_Qi (S := Unit) (fun (r : Int32) _ => r = out ∧ (0 ≤ r.toInt ∧ r.toInt ≤ 1)) (fun _ t => BC (dC, dI) (va_A ((a0, .inr (9, [g7, g8, g9, .ref a3, g10, g11, g12, g13, g14, g15, g16, g17, g18, g19, g20, .ref a1, g21, g22, g23, g24, g25, g26, g27, g28, g29, g30, g31, g32, g33, g34])) :: bX11 a3 uq kq q_q ([(a1, .inl (cB36, 26, .inl m_v))])) sz) ((a0, .inr (9, [g7, g8, g9, .ref a3, g10, g11, g12, g13, g14, g15, g16, g17, g18, g19, g20, .ref a1, g21, g22, g23, g24, g25, g26, g27, g28, g29, g30, g31, g32, g33, g34])) :: bX11 a3 uq kq q_q ([(a1, .inl (cB36, 26, .inl m_v))])) [] t) (va_A ((a0, .inr (9, [g7, g8, g9, .ref a3, g10, g11, g12, g13, g14, g15, g16, g17, g18, g19, g20, .ref a1, g21, g22, g23, g24, g25, g26, g27, g28, g29, g30, g31, g32, g33, g34])) :: bX11 a3 uq kq q_q ([(a1, .inl (cB36, 26, .inl m_v))])) sz)) 0 0 (va_A ((a0, .inr (9, [g7, g8, g9, .ref a3, g10, g11, g12, g13, g14, g15, g16, g17, g18, g19, g20, .ref a1, g21, g22, g23, g24, g25, g26, g27, g28, g29, g30, g31, g32, g33, g34])) :: bX11 a3 uq kq q_q ([(a1, .inl (cB36, 26, .inl m_v))])) sz) := by
  refine Met.ofW (cc := cX12_isTangled) (maxL := 4) (ret := (some .boolean)) (by decide) rfl ?_
  intro p e s m args below meth c s₁ B0 hml hv
  obtain ⟨rfl, hsz, hP, hK, hD0, hN⟩ := hv
  have hx := B0.exec
  have hb := B0.bytes
  have hr := B0.returns
  have hts := atoms_spec (ws := vfX12_isTangled) B0.pre
  have hown : s.vm.findClass RX12 = some m.cls := findClass_of_methodNamed B0.named
  have hlocks := B0.notSynchronized
  subst hsz
  have hD := hD0.self (sz := s.heap.size)
  generalize hAe : va_A ((a0, .inr (9, [g7, g8, g9, .ref a3, g10, g11, g12, g13, g14, g15, g16, g17, g18, g19, g20, .ref a1, g21, g22, g23, g24, g25, g26, g27, g28, g29, g30, g31, g32, g33, g34])) :: bX11 a3 uq kq q_q ([(a1, .inl (cB36, 26, .inl m_v))])) s.heap.size = A at hD ⊢
  have hA : ∀ q : Nat, s.heap.size ≤ q → A q := fun q h => by rw [← hAe]; exact Or.inr h
  have hS : va_S A s.heap s.heap [] := va_S.rf
  have hP : va_P (dC, dI) vwCl ((a0, .inr (9, [g7, g8, g9, .ref a3, g10, g11, g12, g13, g14, g15, g16, g17, g18, g19, g20, .ref a1, g21, g22, g23, g24, g25, g26, g27, g28, g29, g30, g31, g32, g33, g34])) :: bX11 a3 uq kq q_q ([(a1, .inl (cB36, 26, .inl m_v))])) s.heap := hP
  have hl := lv_entry ([.ref a0, .ref a1, .int k2]) (n := 4) (Nat.le_of_ble_eq_true rfl)
  rw [lg_entry_eq]
  generalize (lg_sl ([.ref a0, .ref a1, .int k2]) ++ List.replicate (4 - (lg_sl ([.ref a0, .ref a1, .int k2])).length) Slot.unset).toArray = ls at hl ⊢
  have hl : lv_has ls 4 [(0, .ref a0), (1, .ref a1), (2, .int k2)] := hl
  refine W_q (fun QQ hQQ => ?_)
  rw [f_X12_isTangled] at h
  refine lv_iconst (v := 0) hx hb dX12_isTangled_0 (by decide) ?_
  refine lv_istore_n (lv' := [(3, .int 0), (0, .ref a0), (1, .ref a1), (2, .int k2)]) hx hb dX12_isTangled_1 rfl hl (by decide) rfl (fun ls hl => ?_)
  have L2 : ∀ (n2 : Nat) (v2_l3 : Int32) (H : Heap) (locs : List Loc) (ls : Array Slot), f_X12_isTangled_L2 k2 m_v q_q n2 v2_l3 = some out → va_P (dC, dI) vwCl ((a0, .inr (9, [g7, g8, g9, .ref a3, g10, g11, g12, g13, g14, g15, g16, g17, g18, g19, g20, .ref a1, g21, g22, g23, g24, g25, g26, g27, g28, g29, g30, g31, g32, g33, g34])) :: bX11 a3 uq kq q_q ([(a1, .inl (cB36, 26, .inl m_v))])) H → va_D A ((a0, .inr (9, [g7, g8, g9, .ref a3, g10, g11, g12, g13, g14, g15, g16, g17, g18, g19, g20, .ref a1, g21, g22, g23, g24, g25, g26, g27, g28, g29, g30, g31, g32, g33, g34])) :: bX11 a3 uq kq q_q ([(a1, .inl (cB36, 26, .inl m_v))])) → va_S A s.heap H locs → lv_has ls 4 [(3, .int v2_l3), (0, .ref a0), (1, .ref a1), (2, .int k2)] → W p l e (headSpec vfX12_isTangled { frames := 2, cells := 0, slots := 0, locals := 45 }).room s m ([.ref a0, .ref a1, .int k2]).toArray below meth c H locs 0 0 QQ (F0 m 2 ls []) := by
    intro n2
    induction n2 with
    | zero =>
      intro v2_l3 H locs ls h  _ _ _ _
      rw [f_X12_isTangled_L2] at h
      cases h
    | succ n2 ih2 =>
      intro v2_l3 H locs ls h  hP hD hS hl
      rw [f_X12_isTangled_L2] at h
      refine lv_iload_n hx hb dX12_isTangled_2 rfl (lv_at hl 0 rfl) ?_
      refine lv_aload_n hx hb dX12_isTangled_3 rfl (lv_at hl 1 rfl) ?_
      refine va_get (D := (dC, dI)) (ci := 9) (v := .ref a3) (C := RX12) (T := TX12) (N := 30) hx hb hts ifX12_isTangled_X12 hown hK hP 0 rfl rfl 3 (by decide) (hts (.fieldLink RX12 299 "HookPierModel" "pier" "LHookPierModel$Pier;") (List.mem_of_getElem? (i := 1) rfl)) (fun _ h9 => h9) rfl dX12_isTangled_4 ?_
      refine va_getN (D := (dC, dI)) (ci := 8) (v := .int q_q.2.2.2.2.2.1) (C := RX11) (T := TX11) (N := 24) hx hb hts ifX12_isTangled_X11 hown hK hP 1 rfl rfl 5 (by decide) (va_Nw.use rfl (hN.1 (.fieldLinkNest RX12 224 "HookPierModel$Pier" "askers" "I" "HookPierModel") (List.mem_of_getElem? (i := 27) rfl))) (fun _ h9 => h9) rfl dX12_isTangled_7 ?_
      refine lv_icmp_ge (tgt := 66) hx hb dX12_isTangled_10 (by decide) (fun c10 => ?_) (fun c10 => ?_)
      · have h := (if_pos c10).symm.trans h
        refine lv_iconst (v := 0) hx hb dX12_isTangled_66 (by decide) ?_
        obtain rfl := Option.some.inj h
        have hP9 := hP.sub (ws' := ((a0, .inr (9, [g7, g8, g9, .ref a3, g10, g11, g12, g13, g14, g15, g16, g17, g18, g19, g20, .ref a1, g21, g22, g23, g24, g25, g26, g27, g28, g29, g30, g31, g32, g33, g34])) :: bX11 a3 uq kq q_q ([(a1, .inl (cB36, 26, .inl m_v))]))) [0, 1, 2, 3, 4, 5, 6, 7, 8, 9, 10, 11, 12, 13, 14, 15, 16] rfl
        have hD9 := hD.sub (ws' := ((a0, .inr (9, [g7, g8, g9, .ref a3, g10, g11, g12, g13, g14, g15, g16, g17, g18, g19, g20, .ref a1, g21, g22, g23, g24, g25, g26, g27, g28, g29, g30, g31, g32, g33, g34])) :: bX11 a3 uq kq q_q ([(a1, .inl (cB36, 26, .inl m_v))]))) [0, 1, 2, 3, 4, 5, 6, 7, 8, 9, 10, 11, 12, 13, 14, 15, 16] (by decide) rfl
        have hK9 := hK.sub (tys' := []) [] rfl
        rw [hQQ]
        exact W.zret (v := (0 : Int32)) hx hb hr rfl (fun t ht hW => ⟨⟨(0 : Int32), (), rfl, ⟨rfl, (by decide)⟩, by rw [ht]; exact hP9, va_K.moved hW.alike hK9, hD9⟩, hS.F ht⟩) hS.2.2 dX12_isTangled_67
      · have h := (if_neg c10).symm.trans h
        refine lv_iload_n hx hb dX12_isTangled_13 rfl (lv_at hl 0 rfl) ?_
        refine lv_iload_n hx hb dX12_isTangled_14 rfl (lv_at hl 3 rfl) ?_
        have J60 : ∀ (H : Heap) (locs : List Loc) (ls : Array Slot), f_X12_isTangled_J60 (f_X12_isTangled_L2 k2 m_v q_q n2) v2_l3 = some out → va_P (dC, dI) vwCl ((a0, .inr (9, [g7, g8, g9, .ref a3, g10, g11, g12, g13, g14, g15, g16, g17, g18, g19, g20, .ref a1, g21, g22, g23, g24, g25, g26, g27, g28, g29, g30, g31, g32, g33, g34])) :: bX11 a3 uq kq q_q ([(a1, .inl (cB36, 26, .inl m_v))])) H → va_D A ((a0, .inr (9, [g7, g8, g9, .ref a3, g10, g11, g12, g13, g14, g15, g16, g17, g18, g19, g20, .ref a1, g21, g22, g23, g24, g25, g26, g27, g28, g29, g30, g31, g32, g33, g34])) :: bX11 a3 uq kq q_q ([(a1, .inl (cB36, 26, .inl m_v))])) → va_S A s.heap H locs → lv_has ls 4 [(3, .int v2_l3), (0, .ref a0), (1, .ref a1), (2, .int k2)] → W p l e (headSpec vfX12_isTangled { frames := 2, cells := 0, slots := 0, locals := 45 }).room s m ([.ref a0, .ref a1, .int k2]).toArray below meth c H locs 0 0 QQ (F0 m 60 ls []) := by
          intro  H locs ls h  hP hD hS hl
          rw [f_X12_isTangled_J60] at h
          refine lv_iinc (v := (v2_l3 + (1 : Int32))) (lv' := [(3, .int (v2_l3 + (1 : Int32))), (0, .ref a0), (1, .ref a1), (2, .int k2)]) hx hb dX12_isTangled_60 hl (k := 0) rfl rfl (by decide) rfl (fun ls hl => ?_)
          refine lv_goto (tgt := 2) hx hb dX12_isTangled_63 (by decide) ?_
          exact ih2 (v2_l3 + (1 : Int32)) H _ ls h  hP hD hS (lv_sub hl [0, 1, 2, 3] rfl)
        refine lv_icmp_eq (tgt := 60) hx hb dX12_isTangled_15 (by decide) (fun c15 => ?_) (fun c15 => ?_)
        · have h := (if_pos c15).symm.trans h
          exact J60  H _ ls h  hP hD hS (lv_sub hl [0, 1, 2, 3] rfl)
        · have h := (if_neg c15).symm.trans h
          refine lv_aload_n hx hb dX12_isTangled_18 rfl (lv_at hl 2 rfl) ?_
          refine lv_bipush (v := 18) hx hb dX12_isTangled_19 (by decide) ?_
          refine lv_iload_n hx hb dX12_isTangled_21 rfl (lv_at hl 0 rfl) ?_
          refine lv_iadd hx hb dX12_isTangled_22 ?_
          obtain ⟨hg23, h⟩ := gA_of h
          refine va_iald hx hb hK hP 16 14 rfl rfl hg23 dX12_isTangled_23 ?_
          refine lv_bipush (v := (-2)) hx hb dX12_isTangled_24 (by decide) ?_
          refine lv_icmp_eq (tgt := 60) hx hb dX12_isTangled_26 (by decide) (fun c26 => ?_) (fun c26 => ?_)
          · have h := (if_pos c26).symm.trans h
            exact J60  H _ ls h  hP hD hS (lv_sub hl [0, 1, 2, 3] rfl)
          · have h := (if_neg c26).symm.trans h
            refine lv_aload_n hx hb dX12_isTangled_29 rfl (lv_at hl 1 rfl) ?_
            refine lv_iload_n hx hb dX12_isTangled_30 rfl (lv_at hl 3 rfl) ?_
            refine lv_aload_n hx hb dX12_isTangled_31 rfl (lv_at hl 1 rfl) ?_
            refine lv_aload_n hx hb dX12_isTangled_32 rfl (lv_at hl 2 rfl) ?_
            refine lv_bipush (v := 18) hx hb dX12_isTangled_33 (by decide) ?_
            refine lv_iload_n hx hb dX12_isTangled_35 rfl (lv_at hl 3 rfl) ?_
            refine lv_iadd hx hb dX12_isTangled_36 ?_
            obtain ⟨hg37, h⟩ := gA_of h
            refine va_iald hx hb hK hP 16 14 rfl rfl hg37 dX12_isTangled_37 ?_
            obtain ⟨o38, eo38, h⟩ := bd_of h
            refine cl_i (wc := ((a0, .inr (9, [g7, g8, g9, .ref a3, g10, g11, g12, g13, g14, g15, g16, g17, g18, g19, g20, .ref a1, g21, g22, g23, g24, g25, g26, g27, g28, g29, g30, g31, g32, g33, g34])) :: bX11 a3 uq kq q_q [])) (wr := ([(a1, .inl (cB36, 26, .inl m_v))])) (va_runV (As := [.int (m_v (((18 : Int32) + k2)).toNatClampNeg)]) (rest := [.int k2, .ref a0]) ⟨hx, hb, hml, hown, hts⟩ (kfX12_spotOf l dC dI a0 (m_v (((18 : Int32) + k2)).toNatClampNeg) a3 uq kq (g7) (g8) (g9) (g10) (g11) (g12) (g13) (g14) (g15) (g16) (g17) (g18) (g19) (g20) (.ref a1) (g21) (g22) (g23) (g24) (g25) (g26) (g27) (g28) (g29) (g30) (g31) (g32) (g33) (g34) q_q H.size o38 eo38) (cwV 1 hts gfX12_isTangled_0 rfl rfl rfl (by decide +kernel) ⟨(Nat.le_of_ble_eq_true rfl), (Nat.le_of_ble_eq_true rfl)⟩) (PV (hP.sub (ws' := ((a0, .inr (9, [g7, g8, g9, .ref a3, g10, g11, g12, g13, g14, g15, g16, g17, g18, g19, g20, .ref a1, g21, g22, g23, g24, g25, g26, g27, g28, g29, g30, g31, g32, g33, g34])) :: bX11 a3 uq kq q_q [])) [0, 1, 2, 3, 4, 5, 6, 7, 8, 9, 10, 11, 12, 13, 14, 15] rfl) (hK.sub (tys' := (tX11 kq ([]))) [0, 1, 2, 3, 4, 5, 6, 7, 8, 9, 10, 11, 12, 13] rfl) (hD.sub (ws' := ((a0, .inr (9, [g7, g8, g9, .ref a3, g10, g11, g12, g13, g14, g15, g16, g17, g18, g19, g20, .ref a1, g21, g22, g23, g24, g25, g26, g27, g28, g29, g30, g31, g32, g33, g34])) :: bX11 a3 uq kq q_q [])) [0, 1, 2, 3, 4, 5, 6, 7, 8, 9, 10, 11, 12, 13, 14, 15] (by decide) rfl) hN 0 rfl rfl) rfl rfl hl.1 rfl (lv_room (Nat.le_of_ble_eq_true rfl)) dX12_isTangled_38 ⟨(Nat.le_of_ble_eq_true rfl), (Nat.le_of_ble_eq_true rfl)⟩) hP hD hK hS hA [0, 1, 2, 3, 4, 5, 6, 7, 8, 9, 10, 11, 12, 13, 14, 15] [16] rfl rfl (by decide) (by decide) (fun r38 _ H locs hw hP hD _ hS => ?_)
            obtain rfl := hw.symm
            have hP : va_P (dC, dI) vwCl ((a1, .inl (cB36, 26, .inl m_v)) :: (a0, .inr (9, [g7, g8, g9, .ref a3, g10, g11, g12, g13, g14, g15, g16, g17, g18, g19, g20, .ref a1, g21, g22, g23, g24, g25, g26, g27, g28, g29, g30, g31, g32, g33, g34])) :: bX11 a3 uq kq q_q []) H := hP
            have hD : va_D A ((a1, .inl (cB36, 26, .inl m_v)) :: (a0, .inr (9, [g7, g8, g9, .ref a3, g10, g11, g12, g13, g14, g15, g16, g17, g18, g19, g20, .ref a1, g21, g22, g23, g24, g25, g26, g27, g28, g29, g30, g31, g32, g33, g34])) :: bX11 a3 uq kq q_q []) := hD
            refine lv_iload_n hx hb dX12_isTangled_41 rfl (lv_at hl 0 rfl) ?_
            refine lv_aload_n hx hb dX12_isTangled_42 rfl (lv_at hl 1 rfl) ?_
            refine lv_aload_n hx hb dX12_isTangled_43 rfl (lv_at hl 2 rfl) ?_
            refine lv_bipush (v := 18) hx hb dX12_isTangled_44 (by decide) ?_
            refine lv_iload_n hx hb dX12_isTangled_46 rfl (lv_at hl 0 rfl) ?_
            refine lv_iadd hx hb dX12_isTangled_47 ?_
            obtain ⟨hg48, h⟩ := gA_of h
            refine va_iald hx hb hK hP 0 14 rfl rfl hg48 dX12_isTangled_48 ?_
            obtain ⟨o49, eo49, h⟩ := bd_of h
            refine cl_i (wc := ((a0, .inr (9, [g7, g8, g9, .ref a3, g10, g11, g12, g13, g14, g15, g16, g17, g18, g19, g20, .ref a1, g21, g22, g23, g24, g25, g26, g27, g28, g29, g30, g31, g32, g33, g34])) :: bX11 a3 uq kq q_q [])) (wr := ([(a1, .inl (cB36, 26, .inl m_v))])) (va_runV (As := [.int (m_v (((18 : Int32) + v2_l3)).toNatClampNeg)]) (rest := [.int v2_l3, .int o38, .int k2, .ref a0]) ⟨hx, hb, hml, hown, hts⟩ (kfX12_spotOf l dC dI a0 (m_v (((18 : Int32) + v2_l3)).toNatClampNeg) a3 uq kq (g7) (g8) (g9) (g10) (g11) (g12) (g13) (g14) (g15) (g16) (g17) (g18) (g19) (g20) (.ref a1) (g21) (g22) (g23) (g24) (g25) (g26) (g27) (g28) (g29) (g30) (g31) (g32) (g33) (g34) q_q H.size o49 eo49) (cwV 1 hts gfX12_isTangled_0 rfl rfl rfl (by decide +kernel) ⟨(Nat.le_of_ble_eq_true rfl), (Nat.le_of_ble_eq_true rfl)⟩) (PV (hP.sub (ws' := ((a0, .inr (9, [g7, g8, g9, .ref a3, g10, g11, g12, g13, g14, g15, g16, g17, g18, g19, g20, .ref a1, g21, g22, g23, g24, g25, g26, g27, g28, g29, g30, g31, g32, g33, g34])) :: bX11 a3 uq kq q_q [])) [1, 2, 3, 4, 5, 6, 7, 8, 9, 10, 11, 12, 13, 14, 15, 16] rfl) (hK.sub (tys' := (tX11 kq ([]))) [0, 1, 2, 3, 4, 5, 6, 7, 8, 9, 10, 11, 12, 13] rfl) (hD.sub (ws' := ((a0, .inr (9, [g7, g8, g9, .ref a3, g10, g11, g12, g13, g14, g15, g16, g17, g18, g19, g20, .ref a1, g21, g22, g23, g24, g25, g26, g27, g28, g29, g30, g31, g32, g33, g34])) :: bX11 a3 uq kq q_q [])) [1, 2, 3, 4, 5, 6, 7, 8, 9, 10, 11, 12, 13, 14, 15, 16] (by decide) rfl) hN 0 rfl rfl) rfl rfl hl.1 rfl (lv_room (Nat.le_of_ble_eq_true rfl)) dX12_isTangled_49 ⟨(Nat.le_of_ble_eq_true rfl), (Nat.le_of_ble_eq_true rfl)⟩) hP hD hK hS hA [1, 2, 3, 4, 5, 6, 7, 8, 9, 10, 11, 12, 13, 14, 15, 16] [0] rfl rfl (by decide) (by decide) (fun r49 _ H locs hw hP hD _ hS => ?_)
            obtain rfl := hw.symm
            have hP : va_P (dC, dI) vwCl ((a1, .inl (cB36, 26, .inl m_v)) :: (a0, .inr (9, [g7, g8, g9, .ref a3, g10, g11, g12, g13, g14, g15, g16, g17, g18, g19, g20, .ref a1, g21, g22, g23, g24, g25, g26, g27, g28, g29, g30, g31, g32, g33, g34])) :: bX11 a3 uq kq q_q []) H := hP
            have hD : va_D A ((a1, .inl (cB36, 26, .inl m_v)) :: (a0, .inr (9, [g7, g8, g9, .ref a3, g10, g11, g12, g13, g14, g15, g16, g17, g18, g19, g20, .ref a1, g21, g22, g23, g24, g25, g26, g27, g28, g29, g30, g31, g32, g33, g34])) :: bX11 a3 uq kq q_q []) := hD
            obtain ⟨o52, eo52, h⟩ := bd_of h
            refine cl_i (wc := ((a0, .inr (9, [g7, g8, g9, .ref a3, g10, g11, g12, g13, g14, g15, g16, g17, g18, g19, g20, .ref a1, g21, g22, g23, g24, g25, g26, g27, g28, g29, g30, g31, g32, g33, g34])) :: bX11 a3 uq kq q_q [])) (wr := ([(a1, .inl (cB36, 26, .inl m_v))])) (va_runV (As := [.int k2, .int o38, .int v2_l3, .int o49]) (rest := []) ⟨hx, hb, hml, hown, hts⟩ (kfX12_areTangled l dC dI a0 k2 o38 v2_l3 o49 a3 uq kq (g7) (g8) (g9) (g10) (g11) (g12) (g13) (g14) (g15) (g16) (g17) (g18) (g19) (g20) (.ref a1) (g21) (g22) (g23) (g24) (g25) (g26) (g27) (g28) (g29) (g30) (g31) (g32) (g33) (g34) q_q H.size o52 eo52) (cwV 4 hts gfX12_isTangled_1 rfl rfl rfl (by decide +kernel) ⟨(Nat.le_of_ble_eq_true rfl), (Nat.le_of_ble_eq_true rfl)⟩) (PV (hP.sub (ws' := ((a0, .inr (9, [g7, g8, g9, .ref a3, g10, g11, g12, g13, g14, g15, g16, g17, g18, g19, g20, .ref a1, g21, g22, g23, g24, g25, g26, g27, g28, g29, g30, g31, g32, g33, g34])) :: bX11 a3 uq kq q_q [])) [1, 2, 3, 4, 5, 6, 7, 8, 9, 10, 11, 12, 13, 14, 15, 16] rfl) (hK.sub (tys' := (tX11 kq ([]))) [0, 1, 2, 3, 4, 5, 6, 7, 8, 9, 10, 11, 12, 13] rfl) (hD.sub (ws' := ((a0, .inr (9, [g7, g8, g9, .ref a3, g10, g11, g12, g13, g14, g15, g16, g17, g18, g19, g20, .ref a1, g21, g22, g23, g24, g25, g26, g27, g28, g29, g30, g31, g32, g33, g34])) :: bX11 a3 uq kq q_q [])) [1, 2, 3, 4, 5, 6, 7, 8, 9, 10, 11, 12, 13, 14, 15, 16] (by decide) rfl) hN 0 rfl rfl) rfl rfl hl.1 rfl (lv_room (Nat.le_of_ble_eq_true rfl)) dX12_isTangled_52 ⟨(Nat.le_of_ble_eq_true rfl), (Nat.le_of_ble_eq_true rfl)⟩) hP hD hK hS hA [1, 2, 3, 4, 5, 6, 7, 8, 9, 10, 11, 12, 13, 14, 15, 16] [0] rfl rfl (by decide) (by decide) (fun r52 _ H locs hw hP hD _ hS => ?_)
            obtain ⟨hw, br52⟩ := hw
            obtain rfl := hw.symm
            have hP : va_P (dC, dI) vwCl ((a1, .inl (cB36, 26, .inl m_v)) :: (a0, .inr (9, [g7, g8, g9, .ref a3, g10, g11, g12, g13, g14, g15, g16, g17, g18, g19, g20, .ref a1, g21, g22, g23, g24, g25, g26, g27, g28, g29, g30, g31, g32, g33, g34])) :: bX11 a3 uq kq q_q []) H := hP
            have hD : va_D A ((a1, .inl (cB36, 26, .inl m_v)) :: (a0, .inr (9, [g7, g8, g9, .ref a3, g10, g11, g12, g13, g14, g15, g16, g17, g18, g19, g20, .ref a1, g21, g22, g23, g24, g25, g26, g27, g28, g29, g30, g31, g32, g33, g34])) :: bX11 a3 uq kq q_q []) := hD
            refine lv_if_eq (tgt := 60) hx hb dX12_isTangled_55 (by decide) (fun c55 => ?_) (fun c55 => ?_)
            · have h := (if_pos c55).symm.trans h
              exact J60  H _ ls h  (hP.sub (ws' := ((a0, .inr (9, [g7, g8, g9, .ref a3, g10, g11, g12, g13, g14, g15, g16, g17, g18, g19, g20, .ref a1, g21, g22, g23, g24, g25, g26, g27, g28, g29, g30, g31, g32, g33, g34])) :: bX11 a3 uq kq q_q ([(a1, .inl (cB36, 26, .inl m_v))]))) [1, 2, 3, 4, 5, 6, 7, 8, 9, 10, 11, 12, 13, 14, 15, 16, 0] rfl) (hD.sub (ws' := ((a0, .inr (9, [g7, g8, g9, .ref a3, g10, g11, g12, g13, g14, g15, g16, g17, g18, g19, g20, .ref a1, g21, g22, g23, g24, g25, g26, g27, g28, g29, g30, g31, g32, g33, g34])) :: bX11 a3 uq kq q_q ([(a1, .inl (cB36, 26, .inl m_v))]))) [1, 2, 3, 4, 5, 6, 7, 8, 9, 10, 11, 12, 13, 14, 15, 16, 0] (by decide) rfl) hS (lv_sub hl [0, 1, 2, 3] rfl)
            · have h := (if_neg c55).symm.trans h
              refine lv_iconst (v := 1) hx hb dX12_isTangled_58 (by decide) ?_
              obtain rfl := Option.some.inj h
              have hP9 := hP.sub (ws' := ((a0, .inr (9, [g7, g8, g9, .ref a3, g10, g11, g12, g13, g14, g15, g16, g17, g18, g19, g20, .ref a1, g21, g22, g23, g24, g25, g26, g27, g28, g29, g30, g31, g32, g33, g34])) :: bX11 a3 uq kq q_q ([(a1, .inl (cB36, 26, .inl m_v))]))) [1, 2, 3, 4, 5, 6, 7, 8, 9, 10, 11, 12, 13, 14, 15, 16, 0] rfl
              have hD9 := hD.sub (ws' := ((a0, .inr (9, [g7, g8, g9, .ref a3, g10, g11, g12, g13, g14, g15, g16, g17, g18, g19, g20, .ref a1, g21, g22, g23, g24, g25, g26, g27, g28, g29, g30, g31, g32, g33, g34])) :: bX11 a3 uq kq q_q ([(a1, .inl (cB36, 26, .inl m_v))]))) [1, 2, 3, 4, 5, 6, 7, 8, 9, 10, 11, 12, 13, 14, 15, 16, 0] (by decide) rfl
              have hK9 := hK.sub (tys' := []) [] rfl
              rw [hQQ]
              exact W.zret (v := (1 : Int32)) hx hb hr rfl (fun t ht hW => ⟨⟨(1 : Int32), (), rfl, ⟨rfl, (by decide)⟩, by rw [ht]; exact hP9, va_K.moved hW.alike hK9, hD9⟩, hS.F ht⟩) hS.2.2 dX12_isTangled_59
  exact L2 FU (0 : Int32) s.heap _ ls h  hP hD hS (lv_sub hl [0, 1, 2, 3] rfl)
theorem dX12_fathomsOf_0 : decode cX12_fathomsOf 0 = .ok (.iload_n 1, 1) := by decide +kernel
theorem dX12_fathomsOf_1 : decode cX12_fathomsOf 1 = .ok (.aload_n 0, 1) := by decide +kernel
theorem dX12_fathomsOf_10 : decode cX12_fathomsOf 10 = .ok (.getfield 299, 3) := by decide +kernel
theorem dX12_fathomsOf_13 : decode cX12_fathomsOf 13 = .ok (.getfield 207, 3) := by decide +kernel
theorem dX12_fathomsOf_16 : decode cX12_fathomsOf 16 = .ok (.irem, 1) := by decide +kernel
theorem dX12_fathomsOf_17 : decode cX12_fathomsOf 17 = .ok (.iconst 1, 1) := by decide +kernel
theorem dX12_fathomsOf_18 : decode cX12_fathomsOf 18 = .ok (.iadd, 1) := by decide +kernel
theorem dX12_fathomsOf_19 : decode cX12_fathomsOf 19 = .ok (.ireturn, 1) := by decide +kernel
theorem dX12_fathomsOf_2 : decode cX12_fathomsOf 2 = .ok (.getfield 299, 3) := by decide +kernel
theorem dX12_fathomsOf_5 : decode cX12_fathomsOf 5 = .ok (.getfield 175, 3) := by decide +kernel
theorem dX12_fathomsOf_8 : decode cX12_fathomsOf 8 = .ok (.idiv, 1) := by decide +kernel
theorem dX12_fathomsOf_9 : decode cX12_fathomsOf 9 = .ok (.aload_n 0, 1) := by decide +kernel
def vfX12_fathomsOf : List Cond := List.cons (.code yX12_fathomsOf cX12_fathomsOf 2 (some .int)) (apW [.fieldLink RX12 299 "HookPierModel" "pier" "LHookPierModel$Pier;"] (apW wsX120 (wsX110)))
theorem ifX12_fathomsOf_X12 : ∀ w ∈ wsX120, w ∈ vfX12_fathomsOf := fun _ h => (List.mem_cons_of_mem _ (List.mem_append_right _ (List.mem_append_left _ h)))
theorem ifX12_fathomsOf_X11 : ∀ w ∈ wsX110, w ∈ vfX12_fathomsOf := fun _ h => (List.mem_cons_of_mem _ (List.mem_append_right _ (List.mem_append_right _ h)))
theorem qfX12_fathomsOf : Good vfX12_fathomsOf := gd_cons (by decide +kernel) (gd_app (gd_dec (by decide +kernel) : Good [.fieldLink RX12 299 "HookPierModel" "pier" "LHookPierModel$Pier;"]) (gd_app qsX12 qsX11))
set_option maxHeartbeats 2000000 in
set_option maxRecDepth 100000 in
theorem kfX12_fathomsOf (l : Launch) (dC : Nat → ClassId) (dI : Nat → Nat → Nat) (a0 : Nat) (k1 : Int32) (a2 : Nat) (uq : Nat → Nat) (kq : Nat → ClassId) (g5 : Value) (g6 : Value) (g7 : Value) (g8 : Value) (g9 : Value) (g10 : Value) (g11 : Value) (g12 : Value) (g13 : Value) (g14 : Value) (g15 : Value) (g16 : Value) (g17 : Value) (g18 : Value) (g19 : Value) (g20 : Value) (g21 : Value) (g22 : Value) (g23 : Value) (g24 : Value) (g25 : Value) (g26 : Value) (g27 : Value) (g28 : Value) (g29 : Value) (g30 : Value) (g31 : Value) (g32 : Value) (g33 : Value) (q_q : TX11_q) (sz : Nat) (out : Int32) (h : f_X12_fathomsOf k1 q_q = some out) : Met l yX12_fathomsOf vfX12_fathomsOf ({ frames := 0, cells := 0, slots := 0, locals := 0 }) (PC (dC, dI) [.ref a0, .int k1] sz ((a0, .inr (9, [g5, g6, g7, .ref a2, g8, g9, g10, g11, g12, g13, g14, g15, g16, g17, g18, g19, g20, g21, g22, g23, g24, g25, g26, g27, g28, g29, g30, g31, g32, g33])) :: bX11 a2 uq kq q_q []) (tX11 kq ([]))) (va_Qi (S := Unit) (fun (r : Int32) _ => r = out) (fun _ t => BC (dC, dI) (va_A ((a0, .inr (9, [g5, g6, g7, .ref a2, g8, g9, g10, g11, g12, g13, g14, g15, g16, g17, g18, g19, g20, g21, g22, g23, g24, g25, g26, g27, g28, g29, g30, g31, g32, g33])) :: bX11 a2 uq kq q_q []) sz) ((a0, .inr (9, [g5, g6, g7, .ref a2, g8, g9, g10, g11, g12, g13, g14, g15, g16, g17, g18, g19, g20, g21, g22, g23, g24, g25, g26, g27, g28, g29, g30, g31, g32, g33])) :: bX11 a2 uq kq q_q []) [] t) (va_A ((a0, .inr (9, [g5, g6, g7, .ref a2, g8, g9, g10, g11, g12, g13, g14, g15, g16, g17, g18, g19, g20, g21, g22, g23, g24, g25, g26, g27, g28, g29, g30, g31, g32, g33])) :: bX11 a2 uq kq q_q []) sz)) 0 0 (va_A ((a0, .inr (9, [g5, g6, g7, .ref a2, g8, g9, g10, g11, g12, g13, g14, g15, g16, g17, g18, g19, g20, g21, g22, g23, g24, g25, g26, g27, g28, g29, g30, g31, g32, g33])) :: bX11 a2 uq kq q_q []) sz) := by
  refine Met.ofW (cc := cX12_fathomsOf) (maxL := 2) (ret := (some .int)) (by decide) rfl ?_
  intro p e s m args below meth c s₁ B0 hml hv
  obtain ⟨rfl, hsz, hP, hK, hD0, hN⟩ := hv
  have hx := B0.exec
  have hb := B0.bytes
  have hr := B0.returns
  have hts := atoms_spec (ws := vfX12_fathomsOf) B0.pre
  have hown : s.vm.findClass RX12 = some m.cls := findClass_of_methodNamed B0.named
  have hlocks := B0.notSynchronized
  subst hsz
  have hD := hD0.self (sz := s.heap.size)
  generalize hAe : va_A ((a0, .inr (9, [g5, g6, g7, .ref a2, g8, g9, g10, g11, g12, g13, g14, g15, g16, g17, g18, g19, g20, g21, g22, g23, g24, g25, g26, g27, g28, g29, g30, g31, g32, g33])) :: bX11 a2 uq kq q_q []) s.heap.size = A at hD ⊢
  have hA : ∀ q : Nat, s.heap.size ≤ q → A q := fun q h => by rw [← hAe]; exact Or.inr h
  have hS : va_S A s.heap s.heap [] := va_S.rf
  have hP : va_P (dC, dI) vwCl ((a0, .inr (9, [g5, g6, g7, .ref a2, g8, g9, g10, g11, g12, g13, g14, g15, g16, g17, g18, g19, g20, g21, g22, g23, g24, g25, g26, g27, g28, g29, g30, g31, g32, g33])) :: bX11 a2 uq kq q_q []) s.heap := hP
  have hl := lv_entry ([.ref a0, .int k1]) (n := 2) (Nat.le_of_ble_eq_true rfl)
  rw [lg_entry_eq]
  generalize (lg_sl ([.ref a0, .int k1]) ++ List.replicate (2 - (lg_sl ([.ref a0, .int k1])).length) Slot.unset).toArray = ls at hl ⊢
  have hl : lv_has ls 2 [(0, .ref a0), (1, .int k1)] := hl
  refine W_q (fun QQ hQQ => ?_)
  rw [f_X12_fathomsOf] at h
  refine lv_iload_n hx hb dX12_fathomsOf_0 rfl (lv_at hl 1 rfl) ?_
  refine lv_aload_n hx hb dX12_fathomsOf_1 rfl (lv_at hl 0 rfl) ?_
  refine va_get (D := (dC, dI)) (ci := 9) (v := .ref a2) (C := RX12) (T := TX12) (N := 30) hx hb hts ifX12_fathomsOf_X12 hown hK hP 0 rfl rfl 3 (by decide) (hts (.fieldLink RX12 299 "HookPierModel" "pier" "LHookPierModel$Pier;") (List.mem_of_getElem? (i := 1) rfl)) (fun _ h9 => h9) rfl dX12_fathomsOf_2 ?_
  refine va_getN (D := (dC, dI)) (ci := 8) (v := .int q_q.2.2.2.2.1) (C := RX11) (T := TX11) (N := 24) hx hb hts ifX12_fathomsOf_X11 hown hK hP 1 rfl rfl 4 (by decide) (va_Nw.use rfl (hN.1 (.fieldLinkNest RX12 175 "HookPierModel$Pier" "baits" "I" "HookPierModel") (List.mem_of_getElem? (i := 26) rfl))) (fun _ h9 => h9) rfl dX12_fathomsOf_5 ?_
  obtain ⟨hg8, h⟩ := gZi_of h
  refine lv_idiv hx hb dX12_fathomsOf_8 hg8 ?_
  refine lv_aload_n hx hb dX12_fathomsOf_9 rfl (lv_at hl 0 rfl) ?_
  refine va_get (D := (dC, dI)) (ci := 9) (v := .ref a2) (C := RX12) (T := TX12) (N := 30) hx hb hts ifX12_fathomsOf_X12 hown hK hP 0 rfl rfl 3 (by decide) (hts (.fieldLink RX12 299 "HookPierModel" "pier" "LHookPierModel$Pier;") (List.mem_of_getElem? (i := 1) rfl)) (fun _ h9 => h9) rfl dX12_fathomsOf_10 ?_
  refine va_getN (D := (dC, dI)) (ci := 8) (v := .int q_q.2.1) (C := RX11) (T := TX11) (N := 24) hx hb hts ifX12_fathomsOf_X11 hown hK hP 1 rfl rfl 1 (by decide) (va_Nw.use rfl (hN.1 (.fieldLinkNest RX12 207 "HookPierModel$Pier" "deep" "I" "HookPierModel") (List.mem_of_getElem? (i := 23) rfl))) (fun _ h9 => h9) rfl dX12_fathomsOf_13 ?_
  obtain ⟨hg16, h⟩ := gZi_of h
  refine lv_irem hx hb dX12_fathomsOf_16 hg16 ?_
  refine lv_topi (fun z16 ez16 => ?_)
  have h := nm_of h z16 ez16
  refine lv_iconst (v := 1) hx hb dX12_fathomsOf_17 (by decide) ?_
  refine lv_iadd hx hb dX12_fathomsOf_18 ?_
  obtain rfl := Option.some.inj h
  have hP9 := hP.sub (ws' := ((a0, .inr (9, [g5, g6, g7, .ref a2, g8, g9, g10, g11, g12, g13, g14, g15, g16, g17, g18, g19, g20, g21, g22, g23, g24, g25, g26, g27, g28, g29, g30, g31, g32, g33])) :: bX11 a2 uq kq q_q [])) [0, 1, 2, 3, 4, 5, 6, 7, 8, 9, 10, 11, 12, 13, 14, 15] rfl
  have hD9 := hD.sub (ws' := ((a0, .inr (9, [g5, g6, g7, .ref a2, g8, g9, g10, g11, g12, g13, g14, g15, g16, g17, g18, g19, g20, g21, g22, g23, g24, g25, g26, g27, g28, g29, g30, g31, g32, g33])) :: bX11 a2 uq kq q_q [])) [0, 1, 2, 3, 4, 5, 6, 7, 8, 9, 10, 11, 12, 13, 14, 15] (by decide) rfl
  have hK9 := hK.sub (tys' := []) [] rfl
  rw [hQQ]
  exact W.iret (v := (z16 + (1 : Int32))) hx hb hr (fun t ht hW => ⟨⟨(z16 + (1 : Int32)), (), rfl, rfl, by rw [ht]; exact hP9, va_K.moved hW.alike hK9, hD9⟩, hS.F ht⟩) hS.2.2 dX12_fathomsOf_19
theorem dX12_baitOf_0 : decode cX12_baitOf 0 = .ok (.iload_n 1, 1) := by decide +kernel
theorem dX12_baitOf_1 : decode cX12_baitOf 1 = .ok (.aload_n 0, 1) := by decide +kernel
theorem dX12_baitOf_2 : decode cX12_baitOf 2 = .ok (.getfield 299, 3) := by decide +kernel
theorem dX12_baitOf_5 : decode cX12_baitOf 5 = .ok (.getfield 175, 3) := by decide +kernel
theorem dX12_baitOf_8 : decode cX12_baitOf 8 = .ok (.irem, 1) := by decide +kernel
theorem dX12_baitOf_9 : decode cX12_baitOf 9 = .ok (.ireturn, 1) := by decide +kernel
def vfX12_baitOf : List Cond := List.cons (.code yX12_baitOf cX12_baitOf 2 (some .int)) (apW [.fieldLink RX12 299 "HookPierModel" "pier" "LHookPierModel$Pier;"] (apW wsX120 (wsX110)))
theorem ifX12_baitOf_X12 : ∀ w ∈ wsX120, w ∈ vfX12_baitOf := fun _ h => (List.mem_cons_of_mem _ (List.mem_append_right _ (List.mem_append_left _ h)))
theorem ifX12_baitOf_X11 : ∀ w ∈ wsX110, w ∈ vfX12_baitOf := fun _ h => (List.mem_cons_of_mem _ (List.mem_append_right _ (List.mem_append_right _ h)))
theorem qfX12_baitOf : Good vfX12_baitOf := gd_cons (by decide +kernel) (gd_app (gd_dec (by decide +kernel) : Good [.fieldLink RX12 299 "HookPierModel" "pier" "LHookPierModel$Pier;"]) (gd_app qsX12 qsX11))
set_option maxHeartbeats 2000000 in
set_option maxRecDepth 100000 in
theorem kfX12_baitOf (l : Launch) (dC : Nat → ClassId) (dI : Nat → Nat → Nat) (a0 : Nat) (k1 : Int32) (a2 : Nat) (uq : Nat → Nat) (kq : Nat → ClassId) (g5 : Value) (g6 : Value) (g7 : Value) (g8 : Value) (g9 : Value) (g10 : Value) (g11 : Value) (g12 : Value) (g13 : Value) (g14 : Value) (g15 : Value) (g16 : Value) (g17 : Value) (g18 : Value) (g19 : Value) (g20 : Value) (g21 : Value) (g22 : Value) (g23 : Value) (g24 : Value) (g25 : Value) (g26 : Value) (g27 : Value) (g28 : Value) (g29 : Value) (g30 : Value) (g31 : Value) (g32 : Value) (g33 : Value) (q_q : TX11_q) (sz : Nat) (out : Int32) (h : f_X12_baitOf k1 q_q = some out) : Met l yX12_baitOf vfX12_baitOf ({ frames := 0, cells := 0, slots := 0, locals := 0 }) (PC (dC, dI) [.ref a0, .int k1] sz ((a0, .inr (9, [g5, g6, g7, .ref a2, g8, g9, g10, g11, g12, g13, g14, g15, g16, g17, g18, g19, g20, g21, g22, g23, g24, g25, g26, g27, g28, g29, g30, g31, g32, g33])) :: bX11 a2 uq kq q_q []) (tX11 kq ([]))) (va_Qi (S := Unit) (fun (r : Int32) _ => r = out) (fun _ t => BC (dC, dI) (va_A ((a0, .inr (9, [g5, g6, g7, .ref a2, g8, g9, g10, g11, g12, g13, g14, g15, g16, g17, g18, g19, g20, g21, g22, g23, g24, g25, g26, g27, g28, g29, g30, g31, g32, g33])) :: bX11 a2 uq kq q_q []) sz) ((a0, .inr (9, [g5, g6, g7, .ref a2, g8, g9, g10, g11, g12, g13, g14, g15, g16, g17, g18, g19, g20, g21, g22, g23, g24, g25, g26, g27, g28, g29, g30, g31, g32, g33])) :: bX11 a2 uq kq q_q []) [] t) (va_A ((a0, .inr (9, [g5, g6, g7, .ref a2, g8, g9, g10, g11, g12, g13, g14, g15, g16, g17, g18, g19, g20, g21, g22, g23, g24, g25, g26, g27, g28, g29, g30, g31, g32, g33])) :: bX11 a2 uq kq q_q []) sz)) 0 0 (va_A ((a0, .inr (9, [g5, g6, g7, .ref a2, g8, g9, g10, g11, g12, g13, g14, g15, g16, g17, g18, g19, g20, g21, g22, g23, g24, g25, g26, g27, g28, g29, g30, g31, g32, g33])) :: bX11 a2 uq kq q_q []) sz) := by
  refine Met.ofW (cc := cX12_baitOf) (maxL := 2) (ret := (some .int)) (by decide) rfl ?_
  intro p e s m args below meth c s₁ B0 hml hv
  obtain ⟨rfl, hsz, hP, hK, hD0, hN⟩ := hv
  have hx := B0.exec
  have hb := B0.bytes
  have hr := B0.returns
  have hts := atoms_spec (ws := vfX12_baitOf) B0.pre
  have hown : s.vm.findClass RX12 = some m.cls := findClass_of_methodNamed B0.named
  have hlocks := B0.notSynchronized
  subst hsz
  have hD := hD0.self (sz := s.heap.size)
  generalize hAe : va_A ((a0, .inr (9, [g5, g6, g7, .ref a2, g8, g9, g10, g11, g12, g13, g14, g15, g16, g17, g18, g19, g20, g21, g22, g23, g24, g25, g26, g27, g28, g29, g30, g31, g32, g33])) :: bX11 a2 uq kq q_q []) s.heap.size = A at hD ⊢
  have hA : ∀ q : Nat, s.heap.size ≤ q → A q := fun q h => by rw [← hAe]; exact Or.inr h
  have hS : va_S A s.heap s.heap [] := va_S.rf
  have hP : va_P (dC, dI) vwCl ((a0, .inr (9, [g5, g6, g7, .ref a2, g8, g9, g10, g11, g12, g13, g14, g15, g16, g17, g18, g19, g20, g21, g22, g23, g24, g25, g26, g27, g28, g29, g30, g31, g32, g33])) :: bX11 a2 uq kq q_q []) s.heap := hP
  have hl := lv_entry ([.ref a0, .int k1]) (n := 2) (Nat.le_of_ble_eq_true rfl)
  rw [lg_entry_eq]
  generalize (lg_sl ([.ref a0, .int k1]) ++ List.replicate (2 - (lg_sl ([.ref a0, .int k1])).length) Slot.unset).toArray = ls at hl ⊢
  have hl : lv_has ls 2 [(0, .ref a0), (1, .int k1)] := hl
  refine W_q (fun QQ hQQ => ?_)
  rw [f_X12_baitOf] at h
  refine lv_iload_n hx hb dX12_baitOf_0 rfl (lv_at hl 1 rfl) ?_
  refine lv_aload_n hx hb dX12_baitOf_1 rfl (lv_at hl 0 rfl) ?_
  refine va_get (D := (dC, dI)) (ci := 9) (v := .ref a2) (C := RX12) (T := TX12) (N := 30) hx hb hts ifX12_baitOf_X12 hown hK hP 0 rfl rfl 3 (by decide) (hts (.fieldLink RX12 299 "HookPierModel" "pier" "LHookPierModel$Pier;") (List.mem_of_getElem? (i := 1) rfl)) (fun _ h9 => h9) rfl dX12_baitOf_2 ?_
  refine va_getN (D := (dC, dI)) (ci := 8) (v := .int q_q.2.2.2.2.1) (C := RX11) (T := TX11) (N := 24) hx hb hts ifX12_baitOf_X11 hown hK hP 1 rfl rfl 4 (by decide) (va_Nw.use rfl (hN.1 (.fieldLinkNest RX12 175 "HookPierModel$Pier" "baits" "I" "HookPierModel") (List.mem_of_getElem? (i := 26) rfl))) (fun _ h9 => h9) rfl dX12_baitOf_5 ?_
  obtain ⟨hg8, h⟩ := gZi_of h
  refine lv_irem hx hb dX12_baitOf_8 hg8 ?_
  obtain rfl := Option.some.inj h
  have hP9 := hP.sub (ws' := ((a0, .inr (9, [g5, g6, g7, .ref a2, g8, g9, g10, g11, g12, g13, g14, g15, g16, g17, g18, g19, g20, g21, g22, g23, g24, g25, g26, g27, g28, g29, g30, g31, g32, g33])) :: bX11 a2 uq kq q_q [])) [0, 1, 2, 3, 4, 5, 6, 7, 8, 9, 10, 11, 12, 13, 14, 15] rfl
  have hD9 := hD.sub (ws' := ((a0, .inr (9, [g5, g6, g7, .ref a2, g8, g9, g10, g11, g12, g13, g14, g15, g16, g17, g18, g19, g20, g21, g22, g23, g24, g25, g26, g27, g28, g29, g30, g31, g32, g33])) :: bX11 a2 uq kq q_q [])) [0, 1, 2, 3, 4, 5, 6, 7, 8, 9, 10, 11, 12, 13, 14, 15] (by decide) rfl
  have hK9 := hK.sub (tys' := []) [] rfl
  rw [hQQ]
  exact W.iret (v := (k1 - k1 / q_q.2.2.2.2.1 * q_q.2.2.2.2.1)) hx hb hr (fun t ht hW => ⟨⟨(k1 - k1 / q_q.2.2.2.2.1 * q_q.2.2.2.2.1), (), rfl, rfl, by rw [ht]; exact hP9, va_K.moved hW.alike hK9, hD9⟩, hS.F ht⟩) hS.2.2 dX12_baitOf_9
theorem dX11_cut_0 : decode cX11_cut 0 = .ok (.iload_n 0, 1) := by decide +kernel
theorem dX11_cut_1 : decode cX11_cut 1 = .ok (.ifCond .ge 7, 3) := by decide +kernel
theorem dX11_cut_11 : decode cX11_cut 11 = .ok (.if_icmp .le 8, 3) := by decide +kernel
theorem dX11_cut_14 : decode cX11_cut 14 = .ok (.bipush 100, 2) := by decide +kernel
theorem dX11_cut_16 : decode cX11_cut 16 = .ok (.goto 4, 3) := by decide +kernel
theorem dX11_cut_19 : decode cX11_cut 19 = .ok (.iload_n 0, 1) := by decide +kernel
theorem dX11_cut_20 : decode cX11_cut 20 = .ok (.ireturn, 1) := by decide +kernel
theorem dX11_cut_4 : decode cX11_cut 4 = .ok (.iconst 0, 1) := by decide +kernel
theorem dX11_cut_5 : decode cX11_cut 5 = .ok (.goto 15, 3) := by decide +kernel
theorem dX11_cut_8 : decode cX11_cut 8 = .ok (.iload_n 0, 1) := by decide +kernel
theorem dX11_cut_9 : decode cX11_cut 9 = .ok (.bipush 100, 2) := by decide +kernel
def vfX11_cut : List Cond := .code yX11_cut cX11_cut 1 (some .int) :: ([])
theorem qfX11_cut : Good vfX11_cut := gd_cons (by decide +kernel) (gd_dec (by decide +kernel) : Good [])
set_option maxHeartbeats 2000000 in
set_option maxRecDepth 100000 in
theorem kfX11_cut (l : Launch) (dC : Nat → ClassId) (dI : Nat → Nat → Nat) (k0 : Int32) (sz : Nat) (out : Int32) (h : f_X11_cut k0 = out) : Met l yX11_cut vfX11_cut ({ frames := 0, cells := 0, slots := 0, locals := 0 }) (PC (dC, dI) [.int k0] sz [] ([])) (va_Qi (S := Unit) (fun (r : Int32) _ => r = out) (fun _ t => BC (dC, dI) (va_A [] sz) [] [] t) (va_A [] sz)) 0 0 (va_A [] sz) := by
  refine Met.ofW (cc := cX11_cut) (maxL := 1) (ret := (some .int)) (by decide) rfl ?_
  intro p e s m args below meth c s₁ B0 hml hv
  obtain ⟨rfl, hsz, hP, hK, hD0, hN⟩ := hv
  have hx := B0.exec
  have hb := B0.bytes
  have hr := B0.returns
  have hts := atoms_spec (ws := vfX11_cut) B0.pre
  have hown : s.vm.findClass RX11 = some m.cls := findClass_of_methodNamed B0.named
  have hlocks := B0.notSynchronized
  subst hsz
  have hD := hD0.self (sz := s.heap.size)
  generalize hAe : va_A [] s.heap.size = A at hD ⊢
  have hA : ∀ q : Nat, s.heap.size ≤ q → A q := fun q h => by rw [← hAe]; exact Or.inr h
  have hS : va_S A s.heap s.heap [] := va_S.rf
  have hP : va_P (dC, dI) vwCl [] s.heap := hP
  have hl := lv_entry ([.int k0]) (n := 1) (Nat.le_of_ble_eq_true rfl)
  rw [lg_entry_eq]
  generalize (lg_sl ([.int k0]) ++ List.replicate (1 - (lg_sl ([.int k0])).length) Slot.unset).toArray = ls at hl ⊢
  have hl : lv_has ls 1 [(0, .int k0)] := hl
  refine W_q (fun QQ hQQ => ?_)
  rw [f_X11_cut] at h
  refine lv_iload_n hx hb dX11_cut_0 rfl (lv_at hl 0 rfl) ?_
  refine lv_if_ge (tgt := 8) hx hb dX11_cut_1 (by decide) (fun c1 => ?_) (fun c1 => ?_)
  · have h := (if_pos c1).symm.trans h
    refine lv_iload_n hx hb dX11_cut_8 rfl (lv_at hl 0 rfl) ?_
    refine lv_bipush (v := 100) hx hb dX11_cut_9 (by decide) ?_
    refine lv_icmp_le (tgt := 19) hx hb dX11_cut_11 (by decide) (fun c11 => ?_) (fun c11 => ?_)
    · have h := (if_pos c11).symm.trans h
      refine lv_iload_n hx hb dX11_cut_19 rfl (lv_at hl 0 rfl) ?_
      obtain rfl := h
      have hP9 := hP.sub (ws' := []) [] rfl
      have hD9 := hD.sub (ws' := []) [] (by decide) rfl
      have hK9 := hK.sub (tys' := []) [] rfl
      rw [hQQ]
      exact W.iret (v := k0) hx hb hr (fun t ht hW => ⟨⟨k0, (), rfl, rfl, by rw [ht]; exact hP9, va_K.moved hW.alike hK9, hD9⟩, hS.F ht⟩) hS.2.2 dX11_cut_20
    · have h := (if_neg c11).symm.trans h
      refine lv_bipush (v := 100) hx hb dX11_cut_14 (by decide) ?_
      refine lv_goto (tgt := 20) hx hb dX11_cut_16 (by decide) ?_
      obtain rfl := h
      have hP9 := hP.sub (ws' := []) [] rfl
      have hD9 := hD.sub (ws' := []) [] (by decide) rfl
      have hK9 := hK.sub (tys' := []) [] rfl
      rw [hQQ]
      exact W.iret (v := (100 : Int32)) hx hb hr (fun t ht hW => ⟨⟨(100 : Int32), (), rfl, rfl, by rw [ht]; exact hP9, va_K.moved hW.alike hK9, hD9⟩, hS.F ht⟩) hS.2.2 dX11_cut_20
  · have h := (if_neg c1).symm.trans h
    refine lv_iconst (v := 0) hx hb dX11_cut_4 (by decide) ?_
    refine lv_goto (tgt := 20) hx hb dX11_cut_5 (by decide) ?_
    obtain rfl := h
    have hP9 := hP.sub (ws' := []) [] rfl
    have hD9 := hD.sub (ws' := []) [] (by decide) rfl
    have hK9 := hK.sub (tys' := []) [] rfl
    rw [hQQ]
    exact W.iret (v := (0 : Int32)) hx hb hr (fun t ht hW => ⟨⟨(0 : Int32), (), rfl, rfl, by rw [ht]; exact hP9, va_K.moved hW.alike hK9, hD9⟩, hS.F ht⟩) hS.2.2 dX11_cut_20
theorem dX11_wishBy_0 : decode cX11_wishBy 0 = .ok (.iload_n 1, 1) := by decide +kernel
theorem dX11_wishBy_1 : decode cX11_wishBy 1 = .ok (.aload_n 0, 1) := by decide +kernel
theorem dX11_wishBy_11 : decode cX11_wishBy 11 = .ok (.bipush (-20), 2) := by decide +kernel
theorem dX11_wishBy_13 : decode cX11_wishBy 13 = .ok (.goto 20, 3) := by decide +kernel
theorem dX11_wishBy_16 : decode cX11_wishBy 16 = .ok (.aload_n 0, 1) := by decide +kernel
theorem dX11_wishBy_17 : decode cX11_wishBy 17 = .ok (.getfield 31, 3) := by decide +kernel
theorem dX11_wishBy_2 : decode cX11_wishBy 2 = .ok (.getfield 19, 3) := by decide +kernel
theorem dX11_wishBy_20 : decode cX11_wishBy 20 = .ok (.iload_n 2, 1) := by decide +kernel
theorem dX11_wishBy_21 : decode cX11_wishBy 21 = .ok (.iaload, 1) := by decide +kernel
theorem dX11_wishBy_22 : decode cX11_wishBy 22 = .ok (.iload 5, 2) := by decide +kernel
theorem dX11_wishBy_24 : decode cX11_wishBy 24 = .ok (.if_icmp .ne 8, 3) := by decide +kernel
theorem dX11_wishBy_27 : decode cX11_wishBy 27 = .ok (.bipush 20, 2) := by decide +kernel
theorem dX11_wishBy_29 : decode cX11_wishBy 29 = .ok (.goto 4, 3) := by decide +kernel
theorem dX11_wishBy_32 : decode cX11_wishBy 32 = .ok (.iconst 0, 1) := by decide +kernel
theorem dX11_wishBy_33 : decode cX11_wishBy 33 = .ok (.iadd, 1) := by decide +kernel
theorem dX11_wishBy_34 : decode cX11_wishBy 34 = .ok (.bipush 10, 2) := by decide +kernel
theorem dX11_wishBy_36 : decode cX11_wishBy 36 = .ok (.aload_n 0, 1) := by decide +kernel
theorem dX11_wishBy_37 : decode cX11_wishBy 37 = .ok (.getfield 22, 3) := by decide +kernel
theorem dX11_wishBy_40 : decode cX11_wishBy 40 = .ok (.iload_n 2, 1) := by decide +kernel
theorem dX11_wishBy_41 : decode cX11_wishBy 41 = .ok (.iaload, 1) := by decide +kernel
theorem dX11_wishBy_42 : decode cX11_wishBy 42 = .ok (.iload_n 3, 1) := by decide +kernel
theorem dX11_wishBy_43 : decode cX11_wishBy 43 = .ok (.invokestatic 66, 3) := by decide +kernel
theorem dX11_wishBy_46 : decode cX11_wishBy 46 = .ok (.imul, 1) := by decide +kernel
theorem dX11_wishBy_47 : decode cX11_wishBy 47 = .ok (.isub, 1) := by decide +kernel
theorem dX11_wishBy_48 : decode cX11_wishBy 48 = .ok (.istore 6, 2) := by decide +kernel
theorem dX11_wishBy_5 : decode cX11_wishBy 5 = .ok (.iload_n 2, 1) := by decide +kernel
theorem dX11_wishBy_50 : decode cX11_wishBy 50 = .ok (.aload_n 0, 1) := by decide +kernel
theorem dX11_wishBy_51 : decode cX11_wishBy 51 = .ok (.getfield 19, 3) := by decide +kernel
theorem dX11_wishBy_54 : decode cX11_wishBy 54 = .ok (.iload_n 2, 1) := by decide +kernel
theorem dX11_wishBy_55 : decode cX11_wishBy 55 = .ok (.iaload, 1) := by decide +kernel
theorem dX11_wishBy_56 : decode cX11_wishBy 56 = .ok (.iconst 2, 1) := by decide +kernel
theorem dX11_wishBy_57 : decode cX11_wishBy 57 = .ok (.if_icmp .ne 8, 3) := by decide +kernel
theorem dX11_wishBy_6 : decode cX11_wishBy 6 = .ok (.iaload, 1) := by decide +kernel
theorem dX11_wishBy_60 : decode cX11_wishBy 60 = .ok (.iload 6, 2) := by decide +kernel
theorem dX11_wishBy_62 : decode cX11_wishBy 62 = .ok (.goto 20, 3) := by decide +kernel
theorem dX11_wishBy_65 : decode cX11_wishBy 65 = .ok (.iload 6, 2) := by decide +kernel
theorem dX11_wishBy_67 : decode cX11_wishBy 67 = .ok (.bipush 8, 2) := by decide +kernel
theorem dX11_wishBy_69 : decode cX11_wishBy 69 = .ok (.aload_n 0, 1) := by decide +kernel
theorem dX11_wishBy_7 : decode cX11_wishBy 7 = .ok (.iconst 3, 1) := by decide +kernel
theorem dX11_wishBy_70 : decode cX11_wishBy 70 = .ok (.getfield 25, 3) := by decide +kernel
theorem dX11_wishBy_73 : decode cX11_wishBy 73 = .ok (.iload_n 2, 1) := by decide +kernel
theorem dX11_wishBy_74 : decode cX11_wishBy 74 = .ok (.iaload, 1) := by decide +kernel
theorem dX11_wishBy_75 : decode cX11_wishBy 75 = .ok (.iload 4, 2) := by decide +kernel
theorem dX11_wishBy_77 : decode cX11_wishBy 77 = .ok (.invokestatic 66, 3) := by decide +kernel
theorem dX11_wishBy_8 : decode cX11_wishBy 8 = .ok (.if_icmp .ne 8, 3) := by decide +kernel
theorem dX11_wishBy_80 : decode cX11_wishBy 80 = .ok (.imul, 1) := by decide +kernel
theorem dX11_wishBy_81 : decode cX11_wishBy 81 = .ok (.isub, 1) := by decide +kernel
theorem dX11_wishBy_82 : decode cX11_wishBy 82 = .ok (.invokestatic 70, 3) := by decide +kernel
theorem dX11_wishBy_85 : decode cX11_wishBy 85 = .ok (.ireturn, 1) := by decide +kernel
def vfX11_wishBy : List Cond := List.cons (.code yX11_wishBy cX11_wishBy 7 (some .int)) (apW [.fieldLink RX11 19 "HookPierModel$Pier" "kind" "[I", .fieldLink RX11 22 "HookPierModel$Pier" "spot" "[I", .initialized RX12, .static yX12_apart, .methodLink RX11 70 yX11_cut, .static yX11_cut, .initialized RX11, .fieldLink RX11 25 "HookPierModel$Pier" "depth" "[I", .fieldLink RX11 31 "HookPierModel$Pier" "likes" "[I"] (apW wsX110 (apW vfX12_apart (vfX11_cut))))
theorem ifX11_wishBy_X11 : ∀ w ∈ wsX110, w ∈ vfX11_wishBy := fun _ h => (List.mem_cons_of_mem _ (List.mem_append_right _ (List.mem_append_left _ h)))
theorem qfX11_wishBy : Good vfX11_wishBy := gd_cons (by decide +kernel) (gd_app (gd_dec (by decide +kernel) : Good [.fieldLink RX11 19 "HookPierModel$Pier" "kind" "[I", .fieldLink RX11 22 "HookPierModel$Pier" "spot" "[I", .initialized RX12, .static yX12_apart, .methodLink RX11 70 yX11_cut, .static yX11_cut, .initialized RX11, .fieldLink RX11 25 "HookPierModel$Pier" "depth" "[I", .fieldLink RX11 31 "HookPierModel$Pier" "likes" "[I"]) (gd_app qsX11 (gd_app qfX12_apart qfX11_cut)))
theorem gfX11_wishBy_0 : GoodIn vfX11_wishBy vfX12_apart := (goodIn_m (fun _ h => (List.mem_cons_of_mem _ (List.mem_append_right _ (List.mem_append_right _ (List.mem_append_left _ h))))) qfX12_apart)
theorem gfX11_wishBy_1 : GoodIn vfX11_wishBy (va_wsS RX11 70 yX11_cut vfX11_cut) := goodIn_app (goodIn_r [.methodLink RX11 70 yX11_cut, .static yX11_cut, .initialized RX11] [5, 6, 7] rfl (by decide +kernel)) (goodIn_m (fun _ h => (List.mem_cons_of_mem _ (List.mem_append_right _ (List.mem_append_right _ (List.mem_append_right _ h))))) qfX11_cut)
set_option maxHeartbeats 2000000 in
set_option maxRecDepth 100000 in
theorem kfX11_wishBy (l : Launch) (dC : Nat → ClassId) (dI : Nat → Nat → Nat) (a0 : Nat) (k1 : Int32) (k2 : Int32) (k3 : Int32) (k4 : Int32) (k5 : Int32) (uq : Nat → Nat) (kq : Nat → ClassId) (q_q : TX11_q) (sz : Nat) (out : Int32) (h : f_X11_wishBy k1 k2 k3 k4 k5 q_q = some out) : Met l yX11_wishBy vfX11_wishBy ({ frames := 1, cells := 0, slots := 0, locals := 21 }) (PC (dC, dI) [.ref a0, .int k1, .int k2, .int k3, .int k4, .int k5] sz (bX11 a0 uq kq q_q []) (tX11 kq ([]))) (va_Qi (S := Unit) (fun (r : Int32) _ => r = out) (fun _ t => BC (dC, dI) (va_A (bX11 a0 uq kq q_q []) sz) (bX11 a0 uq kq q_q []) [] t) (va_A (bX11 a0 uq kq q_q []) sz)) 0 0 (va_A (bX11 a0 uq kq q_q []) sz) := by
  refine Met.ofW (cc := cX11_wishBy) (maxL := 7) (ret := (some .int)) (by decide) rfl ?_
  intro p e s m args below meth c s₁ B0 hml hv
  obtain ⟨rfl, hsz, hP, hK, hD0, hN⟩ := hv
  have hx := B0.exec
  have hb := B0.bytes
  have hr := B0.returns
  have hts := atoms_spec (ws := vfX11_wishBy) B0.pre
  have hown : s.vm.findClass RX11 = some m.cls := findClass_of_methodNamed B0.named
  have hlocks := B0.notSynchronized
  subst hsz
  have hD := hD0.self (sz := s.heap.size)
  generalize hAe : va_A (bX11 a0 uq kq q_q []) s.heap.size = A at hD ⊢
  have hA : ∀ q : Nat, s.heap.size ≤ q → A q := fun q h => by rw [← hAe]; exact Or.inr h
  have hS : va_S A s.heap s.heap [] := va_S.rf
  have hP : va_P (dC, dI) vwCl (bX11 a0 uq kq q_q []) s.heap := hP
  have hl := lv_entry ([.ref a0, .int k1, .int k2, .int k3, .int k4, .int k5]) (n := 7) (Nat.le_of_ble_eq_true rfl)
  rw [lg_entry_eq]
  generalize (lg_sl ([.ref a0, .int k1, .int k2, .int k3, .int k4, .int k5]) ++ List.replicate (7 - (lg_sl ([.ref a0, .int k1, .int k2, .int k3, .int k4, .int k5])).length) Slot.unset).toArray = ls at hl ⊢
  have hl : lv_has ls 7 [(0, .ref a0), (1, .int k1), (2, .int k2), (3, .int k3), (4, .int k4), (5, .int k5)] := hl
  refine W_q (fun QQ hQQ => ?_)
  rw [f_X11_wishBy] at h
  refine lv_iload_n hx hb dX11_wishBy_0 rfl (lv_at hl 1 rfl) ?_
  refine lv_aload_n hx hb dX11_wishBy_1 rfl (lv_at hl 0 rfl) ?_
  refine va_get (D := (dC, dI)) (ci := 8) (v := .ref (uq 1)) (C := RX11) (T := TX11) (N := 24) hx hb hts ifX11_wishBy_X11 hown hK hP 0 rfl rfl 11 (by decide) (hts (.fieldLink RX11 19 "HookPierModel$Pier" "kind" "[I") (List.mem_of_getElem? (i := 1) rfl)) (fun _ h9 => h9) rfl dX11_wishBy_2 ?_
  refine lv_iload_n hx hb dX11_wishBy_5 rfl (lv_at hl 2 rfl) ?_
  obtain ⟨hg6, h⟩ := gA_of h
  refine va_iald hx hb hK hP 2 1 rfl rfl hg6 dX11_wishBy_6 ?_
  refine lv_iconst (v := 3) hx hb dX11_wishBy_7 (by decide) ?_
  have J33 : ∀ (v33_t1 : Int32) (H : Heap) (locs : List Loc) (ls : Array Slot), f_X11_wishBy_J33 k1 k2 k3 k4 q_q v33_t1 = some out → va_P (dC, dI) vwCl (bX11 a0 uq kq q_q []) H → va_D A (bX11 a0 uq kq q_q []) → va_S A s.heap H locs → lv_has ls 7 [(0, .ref a0), (2, .int k2), (3, .int k3), (4, .int k4)] → W p l e (headSpec vfX11_wishBy { frames := 1, cells := 0, slots := 0, locals := 21 }).room s m ([.ref a0, .int k1, .int k2, .int k3, .int k4, .int k5]).toArray below meth c H locs 0 0 QQ (F0 m 33 ls [.int v33_t1, .int k1]) := by
    intro v33_t1 H locs ls h  hP hD hS hl
    rw [f_X11_wishBy_J33] at h
    refine lv_iadd hx hb dX11_wishBy_33 ?_
    refine lv_bipush (v := 10) hx hb dX11_wishBy_34 (by decide) ?_
    refine lv_aload_n hx hb dX11_wishBy_36 rfl (lv_at hl 0 rfl) ?_
    refine va_get (D := (dC, dI)) (ci := 8) (v := .ref (uq 2)) (C := RX11) (T := TX11) (N := 24) hx hb hts ifX11_wishBy_X11 hown hK hP 0 rfl rfl 12 (by decide) (hts (.fieldLink RX11 22 "HookPierModel$Pier" "spot" "[I") (List.mem_of_getElem? (i := 2) rfl)) (fun _ h9 => h9) rfl dX11_wishBy_37 ?_
    refine lv_iload_n hx hb dX11_wishBy_40 rfl (lv_at hl 1 rfl) ?_
    obtain ⟨hg41, h⟩ := gA_of h
    refine va_iald hx hb hK hP 3 2 rfl rfl hg41 dX11_wishBy_41 ?_
    refine lv_iload_n hx hb dX11_wishBy_42 rfl (lv_at hl 2 rfl) ?_
    obtain ⟨o43, eo43⟩ : ∃ o, o = f_X12_apart (q_q.2.2.2.2.2.2.2.2.2.2.2.2.1 (k2).toNatClampNeg) k3 := ⟨_, rfl⟩
    have h := nm_of h o43 eo43
    refine cl_i (wc := []) (wr := (bX11 a0 uq kq q_q [])) (va_runSN (As := [.int (q_q.2.2.2.2.2.2.2.2.2.2.2.2.1 (k2).toNatClampNeg), .int k3]) (rest := [.int 10, .int (k1 + v33_t1)]) ⟨hx, hb, hml, hown, hts⟩ (kfX12_apart l dC dI (q_q.2.2.2.2.2.2.2.2.2.2.2.2.1 (k2).toNatClampNeg) k3 H.size o43 eo43.symm) ⟨va_cnB 2 hts gfX11_wishBy_0 rfl rfl rfl (hN.1 (.methodLinkNest RX11 66 yX12_apart "HookPierModel") (List.mem_of_getElem? (i := 21) rfl)) (hts (.initialized RX12) (List.mem_of_getElem? (i := 3) rfl)) (by decide +kernel) ⟨(Nat.le_of_ble_eq_true rfl), (Nat.le_of_ble_eq_true rfl)⟩, (hts (.static yX12_apart) (List.mem_of_getElem? (i := 4) rfl)), trivial⟩ (PS (hP.sub (ws' := []) [] rfl) (hK.sub (tys' := ([])) [] rfl) (hD.sub (ws' := []) [] (by decide) rfl) hN) rfl rfl hl.1 rfl (lv_room (Nat.le_of_ble_eq_true rfl)) dX11_wishBy_43 ⟨(Nat.le_of_ble_eq_true rfl), (Nat.le_of_ble_eq_true rfl)⟩) hP hD hK hS hA [] [0, 1, 2, 3, 4, 5, 6, 7, 8, 9, 10, 11, 12, 13, 14] rfl rfl (by decide) (by decide) (fun r43 _ H locs hw hP hD _ hS => ?_)
    obtain rfl := hw.symm
    have hP : va_P (dC, dI) vwCl (bX11 a0 uq kq q_q []) H := hP
    have hD : va_D A (bX11 a0 uq kq q_q []) := hD
    refine lv_imul hx hb dX11_wishBy_46 ?_
    refine lv_isub hx hb dX11_wishBy_47 ?_
    refine lv_istore (lv' := [(6, .int ((k1 + v33_t1) - ((10 : Int32) * o43))), (0, .ref a0), (2, .int k2), (3, .int k3), (4, .int k4)]) hx hb dX11_wishBy_48 hl (by decide) rfl (fun ls hl => ?_)
    refine lv_aload_n hx hb dX11_wishBy_50 rfl (lv_at hl 1 rfl) ?_
    refine va_get (D := (dC, dI)) (ci := 8) (v := .ref (uq 1)) (C := RX11) (T := TX11) (N := 24) hx hb hts ifX11_wishBy_X11 hown hK hP 0 rfl rfl 11 (by decide) (hts (.fieldLink RX11 19 "HookPierModel$Pier" "kind" "[I") (List.mem_of_getElem? (i := 1) rfl)) (fun _ h9 => h9) rfl dX11_wishBy_51 ?_
    refine lv_iload_n hx hb dX11_wishBy_54 rfl (lv_at hl 2 rfl) ?_
    obtain ⟨hg55, h⟩ := gA_of h
    refine va_iald hx hb hK hP 2 1 rfl rfl hg55 dX11_wishBy_55 ?_
    refine lv_iconst (v := 2) hx hb dX11_wishBy_56 (by decide) ?_
    have J82 : ∀ (v82_t0 : Int32) (H : Heap) (locs : List Loc) (ls : Array Slot), f_X11_wishBy_J82 v82_t0 = some out → va_P (dC, dI) vwCl (bX11 a0 uq kq q_q []) H → va_D A (bX11 a0 uq kq q_q []) → va_S A s.heap H locs → lv_has ls 7 [] → W p l e (headSpec vfX11_wishBy { frames := 1, cells := 0, slots := 0, locals := 21 }).room s m ([.ref a0, .int k1, .int k2, .int k3, .int k4, .int k5]).toArray below meth c H locs 0 0 QQ (F0 m 82 ls [.int v82_t0]) := by
      intro v82_t0 H locs ls h  hP hD hS hl
      rw [f_X11_wishBy_J82] at h
      obtain ⟨o82, eo82⟩ : ∃ o, o = f_X11_cut v82_t0 := ⟨_, rfl⟩
      have h := nm_of h o82 eo82
      refine cl_i (wc := []) (wr := (bX11 a0 uq kq q_q [])) (va_runS (As := [.int v82_t0]) (rest := []) ⟨hx, hb, hml, hown, hts⟩ (kfX11_cut l dC dI v82_t0 H.size o82 eo82.symm) (va_cwS 1 hts gfX11_wishBy_1 rfl rfl rfl (by decide +kernel) ⟨(Nat.le_of_ble_eq_true rfl), (Nat.le_of_ble_eq_true rfl)⟩) (PS (hP.sub (ws' := []) [] rfl) (hK.sub (tys' := ([])) [] rfl) (hD.sub (ws' := []) [] (by decide) rfl) hN) rfl rfl hl.1 rfl (lv_room (Nat.le_of_ble_eq_true rfl)) dX11_wishBy_82 ⟨(Nat.le_of_ble_eq_true rfl), (Nat.le_of_ble_eq_true rfl)⟩) hP hD hK hS hA [] [0, 1, 2, 3, 4, 5, 6, 7, 8, 9, 10, 11, 12, 13, 14] rfl rfl (by decide) (by decide) (fun r82 _ H locs hw hP hD _ hS => ?_)
      obtain rfl := hw.symm
      have hP : va_P (dC, dI) vwCl (bX11 a0 uq kq q_q []) H := hP
      have hD : va_D A (bX11 a0 uq kq q_q []) := hD
      obtain rfl := Option.some.inj h
      have hP9 := hP.sub (ws' := (bX11 a0 uq kq q_q [])) [0, 1, 2, 3, 4, 5, 6, 7, 8, 9, 10, 11, 12, 13, 14] rfl
      have hD9 := hD.sub (ws' := (bX11 a0 uq kq q_q [])) [0, 1, 2, 3, 4, 5, 6, 7, 8, 9, 10, 11, 12, 13, 14] (by decide) rfl
      have hK9 := hK.sub (tys' := []) [] rfl
      rw [hQQ]
      exact W.iret (v := o82) hx hb hr (fun t ht hW => ⟨⟨o82, (), rfl, rfl, by rw [ht]; exact hP9, va_K.moved hW.alike hK9, hD9⟩, hS.F ht⟩) hS.2.2 dX11_wishBy_85
    refine lv_icmp_ne (tgt := 65) hx hb dX11_wishBy_57 (by decide) (fun c57 => ?_) (fun c57 => ?_)
    · have h := (if_neg c57).symm.trans h
      refine lv_iload hx hb dX11_wishBy_65 (lv_at hl 0 rfl) ?_
      refine lv_bipush (v := 8) hx hb dX11_wishBy_67 (by decide) ?_
      refine lv_aload_n hx hb dX11_wishBy_69 rfl (lv_at hl 1 rfl) ?_
      refine va_get (D := (dC, dI)) (ci := 8) (v := .ref (uq 3)) (C := RX11) (T := TX11) (N := 24) hx hb hts ifX11_wishBy_X11 hown hK hP 0 rfl rfl 13 (by decide) (hts (.fieldLink RX11 25 "HookPierModel$Pier" "depth" "[I") (List.mem_of_getElem? (i := 8) rfl)) (fun _ h9 => h9) rfl dX11_wishBy_70 ?_
      refine lv_iload_n hx hb dX11_wishBy_73 rfl (lv_at hl 2 rfl) ?_
      obtain ⟨hg74, h⟩ := gA_of h
      refine va_iald hx hb hK hP 4 3 rfl rfl hg74 dX11_wishBy_74 ?_
      refine lv_iload hx hb dX11_wishBy_75 (lv_at hl 4 rfl) ?_
      obtain ⟨o77, eo77⟩ : ∃ o, o = f_X12_apart (q_q.2.2.2.2.2.2.2.2.2.2.2.2.2.1 (k2).toNatClampNeg) k4 := ⟨_, rfl⟩
      have h := nm_of h o77 eo77
      refine cl_i (wc := []) (wr := (bX11 a0 uq kq q_q [])) (va_runSN (As := [.int (q_q.2.2.2.2.2.2.2.2.2.2.2.2.2.1 (k2).toNatClampNeg), .int k4]) (rest := [.int 8, .int ((k1 + v33_t1) - ((10 : Int32) * o43))]) ⟨hx, hb, hml, hown, hts⟩ (kfX12_apart l dC dI (q_q.2.2.2.2.2.2.2.2.2.2.2.2.2.1 (k2).toNatClampNeg) k4 H.size o77 eo77.symm) ⟨va_cnB 2 hts gfX11_wishBy_0 rfl rfl rfl (hN.1 (.methodLinkNest RX11 66 yX12_apart "HookPierModel") (List.mem_of_getElem? (i := 21) rfl)) (hts (.initialized RX12) (List.mem_of_getElem? (i := 3) rfl)) (by decide +kernel) ⟨(Nat.le_of_ble_eq_true rfl), (Nat.le_of_ble_eq_true rfl)⟩, (hts (.static yX12_apart) (List.mem_of_getElem? (i := 4) rfl)), trivial⟩ (PS (hP.sub (ws' := []) [] rfl) (hK.sub (tys' := ([])) [] rfl) (hD.sub (ws' := []) [] (by decide) rfl) hN) rfl rfl hl.1 rfl (lv_room (Nat.le_of_ble_eq_true rfl)) dX11_wishBy_77 ⟨(Nat.le_of_ble_eq_true rfl), (Nat.le_of_ble_eq_true rfl)⟩) hP hD hK hS hA [] [0, 1, 2, 3, 4, 5, 6, 7, 8, 9, 10, 11, 12, 13, 14] rfl rfl (by decide) (by decide) (fun r77 _ H locs hw hP hD _ hS => ?_)
      obtain rfl := hw.symm
      have hP : va_P (dC, dI) vwCl (bX11 a0 uq kq q_q []) H := hP
      have hD : va_D A (bX11 a0 uq kq q_q []) := hD
      refine lv_imul hx hb dX11_wishBy_80 ?_
      refine lv_isub hx hb dX11_wishBy_81 ?_
      refine lv_topi (fun z81 ez81 => ?_)
      have h := nm_of h z81 ez81
      exact J82 z81 H _ ls h  hP hD hS (lv_sub hl [] rfl)
    · have h := (if_pos c57).symm.trans h
      refine lv_iload hx hb dX11_wishBy_60 (lv_at hl 0 rfl) ?_
      refine lv_goto (tgt := 82) hx hb dX11_wishBy_62 (by decide) ?_
      exact J82 ((k1 + v33_t1) - ((10 : Int32) * o43)) H _ ls h  hP hD hS (lv_sub hl [] rfl)
  refine lv_icmp_ne (tgt := 16) hx hb dX11_wishBy_8 (by decide) (fun c8 => ?_) (fun c8 => ?_)
  · have h := (if_neg c8).symm.trans h
    refine lv_aload_n hx hb dX11_wishBy_16 rfl (lv_at hl 0 rfl) ?_
    refine va_get (D := (dC, dI)) (ci := 8) (v := .ref (uq 5)) (C := RX11) (T := TX11) (N := 24) hx hb hts ifX11_wishBy_X11 hown hK hP 0 rfl rfl 15 (by decide) (hts (.fieldLink RX11 31 "HookPierModel$Pier" "likes" "[I") (List.mem_of_getElem? (i := 9) rfl)) (fun _ h9 => h9) rfl dX11_wishBy_17 ?_
    refine lv_iload_n hx hb dX11_wishBy_20 rfl (lv_at hl 2 rfl) ?_
    obtain ⟨hg21, h⟩ := gA_of h
    refine va_iald hx hb hK hP 6 5 rfl rfl hg21 dX11_wishBy_21 ?_
    refine lv_iload hx hb dX11_wishBy_22 (lv_at hl 5 rfl) ?_
    refine lv_icmp_ne (tgt := 32) hx hb dX11_wishBy_24 (by decide) (fun c24 => ?_) (fun c24 => ?_)
    · have h := (if_neg c24).symm.trans h
      refine lv_iconst (v := 0) hx hb dX11_wishBy_32 (by decide) ?_
      exact J33 (0 : Int32) s.heap _ ls h  hP hD hS (lv_sub hl [0, 2, 3, 4] rfl)
    · have h := (if_pos c24).symm.trans h
      refine lv_bipush (v := 20) hx hb dX11_wishBy_27 (by decide) ?_
      refine lv_goto (tgt := 33) hx hb dX11_wishBy_29 (by decide) ?_
      exact J33 (20 : Int32) s.heap _ ls h  hP hD hS (lv_sub hl [0, 2, 3, 4] rfl)
  · have h := (if_pos c8).symm.trans h
    refine lv_bipush (v := (-20)) hx hb dX11_wishBy_11 (by decide) ?_
    refine lv_goto (tgt := 33) hx hb dX11_wishBy_13 (by decide) ?_
    exact J33 (-20 : Int32) s.heap _ ls h  hP hD hS (lv_sub hl [0, 2, 3, 4] rfl)
theorem dX11_wish_0 : decode cX11_wish 0 = .ok (.aload_n 0, 1) := by decide +kernel
theorem dX11_wish_1 : decode cX11_wish 1 = .ok (.aload_n 0, 1) := by decide +kernel
theorem dX11_wish_10 : decode cX11_wish 10 = .ok (.iload 4, 2) := by decide +kernel
theorem dX11_wish_12 : decode cX11_wish 12 = .ok (.invokevirtual 62, 3) := by decide +kernel
theorem dX11_wish_15 : decode cX11_wish 15 = .ok (.ireturn, 1) := by decide +kernel
theorem dX11_wish_2 : decode cX11_wish 2 = .ok (.getfield 28, 3) := by decide +kernel
theorem dX11_wish_5 : decode cX11_wish 5 = .ok (.iload_n 1, 1) := by decide +kernel
theorem dX11_wish_6 : decode cX11_wish 6 = .ok (.iaload, 1) := by decide +kernel
theorem dX11_wish_7 : decode cX11_wish 7 = .ok (.iload_n 1, 1) := by decide +kernel
theorem dX11_wish_8 : decode cX11_wish 8 = .ok (.iload_n 2, 1) := by decide +kernel
theorem dX11_wish_9 : decode cX11_wish 9 = .ok (.iload_n 3, 1) := by decide +kernel
def vfX11_wish : List Cond := List.cons (.code yX11_wish cX11_wish 5 (some .int)) (apW [.fieldLink RX11 28 "HookPierModel$Pier" "hunger" "[I", .methodLink RX11 62 yX11_wishBy, .instanceMethod yX11_wishBy, .selects RX11 yX11_wishBy yX11_wishBy, .initialized RX11] (apW wsX110 (vfX11_wishBy)))
theorem ifX11_wish_X11 : ∀ w ∈ wsX110, w ∈ vfX11_wish := fun _ h => (List.mem_cons_of_mem _ (List.mem_append_right _ (List.mem_append_left _ h)))
theorem qfX11_wish : Good vfX11_wish := gd_cons (by decide +kernel) (gd_app (gd_dec (by decide +kernel) : Good [.fieldLink RX11 28 "HookPierModel$Pier" "hunger" "[I", .methodLink RX11 62 yX11_wishBy, .instanceMethod yX11_wishBy, .selects RX11 yX11_wishBy yX11_wishBy, .initialized RX11]) (gd_app qsX11 qfX11_wishBy))
theorem gfX11_wish_0 : GoodIn vfX11_wish (wsV RX11 62 RX11 yX11_wishBy vfX11_wishBy) := goodIn_app (goodIn_r [.methodLink RX11 62 yX11_wishBy, .instanceMethod yX11_wishBy, .selects RX11 yX11_wishBy yX11_wishBy, .initialized RX11] [2, 3, 4, 5] rfl (by decide +kernel)) (goodIn_m (fun _ h => (List.mem_cons_of_mem _ (List.mem_append_right _ (List.mem_append_right _ h)))) qfX11_wishBy)
set_option maxHeartbeats 2000000 in
set_option maxRecDepth 100000 in
theorem kfX11_wish (l : Launch) (dC : Nat → ClassId) (dI : Nat → Nat → Nat) (a0 : Nat) (k1 : Int32) (k2 : Int32) (k3 : Int32) (k4 : Int32) (uq : Nat → Nat) (kq : Nat → ClassId) (q_q : TX11_q) (sz : Nat) (out : Int32) (h : f_X11_wish k1 k2 k3 k4 q_q = some out) : Met l yX11_wish vfX11_wish ({ frames := 2, cells := 0, slots := 0, locals := 47 }) (PC (dC, dI) [.ref a0, .int k1, .int k2, .int k3, .int k4] sz (bX11 a0 uq kq q_q []) (tX11 kq ([]))) (va_Qi (S := Unit) (fun (r : Int32) _ => r = out) (fun _ t => BC (dC, dI) (va_A (bX11 a0 uq kq q_q []) sz) (bX11 a0 uq kq q_q []) [] t) (va_A (bX11 a0 uq kq q_q []) sz)) 0 0 (va_A (bX11 a0 uq kq q_q []) sz) := by
  refine Met.ofW (cc := cX11_wish) (maxL := 5) (ret := (some .int)) (by decide) rfl ?_
  intro p e s m args below meth c s₁ B0 hml hv
  obtain ⟨rfl, hsz, hP, hK, hD0, hN⟩ := hv
  have hx := B0.exec
  have hb := B0.bytes
  have hr := B0.returns
  have hts := atoms_spec (ws := vfX11_wish) B0.pre
  have hown : s.vm.findClass RX11 = some m.cls := findClass_of_methodNamed B0.named
  have hlocks := B0.notSynchronized
  subst hsz
  have hD := hD0.self (sz := s.heap.size)
  generalize hAe : va_A (bX11 a0 uq kq q_q []) s.heap.size = A at hD ⊢
  have hA : ∀ q : Nat, s.heap.size ≤ q → A q := fun q h => by rw [← hAe]; exact Or.inr h
  have hS : va_S A s.heap s.heap [] := va_S.rf
  have hP : va_P (dC, dI) vwCl (bX11 a0 uq kq q_q []) s.heap := hP
  have hl := lv_entry ([.ref a0, .int k1, .int k2, .int k3, .int k4]) (n := 5) (Nat.le_of_ble_eq_true rfl)
  rw [lg_entry_eq]
  generalize (lg_sl ([.ref a0, .int k1, .int k2, .int k3, .int k4]) ++ List.replicate (5 - (lg_sl ([.ref a0, .int k1, .int k2, .int k3, .int k4])).length) Slot.unset).toArray = ls at hl ⊢
  have hl : lv_has ls 5 [(0, .ref a0), (1, .int k1), (2, .int k2), (3, .int k3), (4, .int k4)] := hl
  refine W_q (fun QQ hQQ => ?_)
  rw [f_X11_wish] at h
  refine lv_aload_n hx hb dX11_wish_0 rfl (lv_at hl 0 rfl) ?_
  refine lv_aload_n hx hb dX11_wish_1 rfl (lv_at hl 0 rfl) ?_
  refine va_get (D := (dC, dI)) (ci := 8) (v := .ref (uq 4)) (C := RX11) (T := TX11) (N := 24) hx hb hts ifX11_wish_X11 hown hK hP 0 rfl rfl 14 (by decide) (hts (.fieldLink RX11 28 "HookPierModel$Pier" "hunger" "[I") (List.mem_of_getElem? (i := 1) rfl)) (fun _ h9 => h9) rfl dX11_wish_2 ?_
  refine lv_iload_n hx hb dX11_wish_5 rfl (lv_at hl 1 rfl) ?_
  obtain ⟨hg6, h⟩ := gA_of h
  refine va_iald hx hb hK hP 5 4 rfl rfl hg6 dX11_wish_6 ?_
  refine lv_iload_n hx hb dX11_wish_7 rfl (lv_at hl 1 rfl) ?_
  refine lv_iload_n hx hb dX11_wish_8 rfl (lv_at hl 2 rfl) ?_
  refine lv_iload_n hx hb dX11_wish_9 rfl (lv_at hl 3 rfl) ?_
  refine lv_iload hx hb dX11_wish_10 (lv_at hl 4 rfl) ?_
  obtain ⟨o12, eo12, h⟩ := bd_of h
  refine cl_i (wc := (bX11 a0 uq kq q_q [])) (wr := []) (va_runV (As := [.int (q_q.2.2.2.2.2.2.2.2.2.2.2.2.2.2.1 (k1).toNatClampNeg), .int k1, .int k2, .int k3, .int k4]) (rest := []) ⟨hx, hb, hml, hown, hts⟩ (kfX11_wishBy l dC dI a0 (q_q.2.2.2.2.2.2.2.2.2.2.2.2.2.2.1 (k1).toNatClampNeg) k1 k2 k3 k4 uq kq q_q s.heap.size o12 eo12) (cwV 5 hts gfX11_wish_0 rfl rfl rfl (by decide +kernel) ⟨(Nat.le_of_ble_eq_true rfl), (Nat.le_of_ble_eq_true rfl)⟩) (PV (hP.sub (ws' := (bX11 a0 uq kq q_q [])) [0, 1, 2, 3, 4, 5, 6, 7, 8, 9, 10, 11, 12, 13, 14] rfl) (hK.sub (tys' := (tX11 kq ([]))) [0, 1, 2, 3, 4, 5, 6, 7, 8, 9, 10, 11, 12, 13] rfl) (hD.sub (ws' := (bX11 a0 uq kq q_q [])) [0, 1, 2, 3, 4, 5, 6, 7, 8, 9, 10, 11, 12, 13, 14] (by decide) rfl) hN 0 rfl rfl) rfl rfl hl.1 rfl (lv_room (Nat.le_of_ble_eq_true rfl)) dX11_wish_12 ⟨(Nat.le_of_ble_eq_true rfl), (Nat.le_of_ble_eq_true rfl)⟩) hP hD hK hS hA [0, 1, 2, 3, 4, 5, 6, 7, 8, 9, 10, 11, 12, 13, 14] [] rfl rfl (by decide) (by decide) (fun r12 _ H locs hw hP hD _ hS => ?_)
  obtain rfl := hw.symm
  have hP : va_P (dC, dI) vwCl (bX11 a0 uq kq q_q []) H := hP
  have hD : va_D A (bX11 a0 uq kq q_q []) := hD
  obtain rfl := Option.some.inj h
  have hP9 := hP.sub (ws' := (bX11 a0 uq kq q_q [])) [0, 1, 2, 3, 4, 5, 6, 7, 8, 9, 10, 11, 12, 13, 14] rfl
  have hD9 := hD.sub (ws' := (bX11 a0 uq kq q_q [])) [0, 1, 2, 3, 4, 5, 6, 7, 8, 9, 10, 11, 12, 13, 14] (by decide) rfl
  have hK9 := hK.sub (tys' := []) [] rfl
  rw [hQQ]
  exact W.iret (v := o12) hx hb hr (fun t ht hW => ⟨⟨o12, (), rfl, rfl, by rw [ht]; exact hP9, va_K.moved hW.alike hK9, hD9⟩, hS.F ht⟩) hS.2.2 dX11_wish_15
theorem dX12_wishOf_0 : decode cX12_wishOf 0 = .ok (.aload_n 0, 1) := by decide +kernel
theorem dX12_wishOf_1 : decode cX12_wishOf 1 = .ok (.getfield 299, 3) := by decide +kernel
theorem dX12_wishOf_10 : decode cX12_wishOf 10 = .ok (.aload_n 0, 1) := by decide +kernel
theorem dX12_wishOf_11 : decode cX12_wishOf 11 = .ok (.iload_n 2, 1) := by decide +kernel
theorem dX12_wishOf_12 : decode cX12_wishOf 12 = .ok (.invokevirtual 310, 3) := by decide +kernel
theorem dX12_wishOf_15 : decode cX12_wishOf 15 = .ok (.aload_n 0, 1) := by decide +kernel
theorem dX12_wishOf_16 : decode cX12_wishOf 16 = .ok (.iload_n 2, 1) := by decide +kernel
theorem dX12_wishOf_17 : decode cX12_wishOf 17 = .ok (.invokevirtual 313, 3) := by decide +kernel
theorem dX12_wishOf_20 : decode cX12_wishOf 20 = .ok (.invokevirtual 316, 3) := by decide +kernel
theorem dX12_wishOf_23 : decode cX12_wishOf 23 = .ok (.ireturn, 1) := by decide +kernel
theorem dX12_wishOf_4 : decode cX12_wishOf 4 = .ok (.iload_n 1, 1) := by decide +kernel
theorem dX12_wishOf_5 : decode cX12_wishOf 5 = .ok (.aload_n 0, 1) := by decide +kernel
theorem dX12_wishOf_6 : decode cX12_wishOf 6 = .ok (.iload_n 2, 1) := by decide +kernel
theorem dX12_wishOf_7 : decode cX12_wishOf 7 = .ok (.invokevirtual 307, 3) := by decide +kernel
def vfX12_wishOf : List Cond := List.cons (.code yX12_wishOf cX12_wishOf 3 (some .int)) (apW [.fieldLink RX12 299 "HookPierModel" "pier" "LHookPierModel$Pier;", .methodLink RX12 307 yX12_spotOf, .instanceMethod yX12_spotOf, .selects RX12 yX12_spotOf yX12_spotOf, .initialized RX12, .methodLink RX12 310 yX12_fathomsOf, .instanceMethod yX12_fathomsOf, .selects RX12 yX12_fathomsOf yX12_fathomsOf, .methodLink RX12 313 yX12_baitOf, .instanceMethod yX12_baitOf, .selects RX12 yX12_baitOf yX12_baitOf, .methodLink RX12 316 yX11_wish, .instanceMethod yX11_wish, .selects RX11 yX11_wish yX11_wish, .initialized RX11] (apW wsX120 (apW vfX12_spotOf (apW vfX12_fathomsOf (apW vfX12_baitOf (vfX11_wish))))))
theorem ifX12_wishOf_X12 : ∀ w ∈ wsX120, w ∈ vfX12_wishOf := fun _ h => (List.mem_cons_of_mem _ (List.mem_append_right _ (List.mem_append_left _ h)))
theorem qfX12_wishOf : Good vfX12_wishOf := gd_cons (by decide +kernel) (gd_app (gd_dec (by decide +kernel) : Good [.fieldLink RX12 299 "HookPierModel" "pier" "LHookPierModel$Pier;", .methodLink RX12 307 yX12_spotOf, .instanceMethod yX12_spotOf, .selects RX12 yX12_spotOf yX12_spotOf, .initialized RX12, .methodLink RX12 310 yX12_fathomsOf, .instanceMethod yX12_fathomsOf, .selects RX12 yX12_fathomsOf yX12_fathomsOf, .methodLink RX12 313 yX12_baitOf, .instanceMethod yX12_baitOf, .selects RX12 yX12_baitOf yX12_baitOf, .methodLink RX12 316 yX11_wish, .instanceMethod yX11_wish, .selects RX11 yX11_wish yX11_wish, .initialized RX11]) (gd_app qsX12 (gd_app qfX12_spotOf (gd_app qfX12_fathomsOf (gd_app qfX12_baitOf qfX11_wish)))))
theorem gfX12_wishOf_0 : GoodIn vfX12_wishOf (wsV RX12 307 RX12 yX12_spotOf vfX12_spotOf) := goodIn_app (goodIn_r [.methodLink RX12 307 yX12_spotOf, .instanceMethod yX12_spotOf, .selects RX12 yX12_spotOf yX12_spotOf, .initialized RX12] [2, 3, 4, 5] rfl (by decide +kernel)) (goodIn_m (fun _ h => (List.mem_cons_of_mem _ (List.mem_append_right _ (List.mem_append_right _ (List.mem_append_left _ h))))) qfX12_spotOf)
theorem gfX12_wishOf_1 : GoodIn vfX12_wishOf (wsV RX12 310 RX12 yX12_fathomsOf vfX12_fathomsOf) := goodIn_app (goodIn_r [.methodLink RX12 310 yX12_fathomsOf, .instanceMethod yX12_fathomsOf, .selects RX12 yX12_fathomsOf yX12_fathomsOf, .initialized RX12] [6, 7, 8, 5] rfl (by decide +kernel)) (goodIn_m (fun _ h => (List.mem_cons_of_mem _ (List.mem_append_right _ (List.mem_append_right _ (List.mem_append_right _ (List.mem_append_left _ h)))))) qfX12_fathomsOf)
theorem gfX12_wishOf_2 : GoodIn vfX12_wishOf (wsV RX12 313 RX12 yX12_baitOf vfX12_baitOf) := goodIn_app (goodIn_r [.methodLink RX12 313 yX12_baitOf, .instanceMethod yX12_baitOf, .selects RX12 yX12_baitOf yX12_baitOf, .initialized RX12] [9, 10, 11, 5] rfl (by decide +kernel)) (goodIn_m (fun _ h => (List.mem_cons_of_mem _ (List.mem_append_right _ (List.mem_append_right _ (List.mem_append_right _ (List.mem_append_right _ (List.mem_append_left _ h))))))) qfX12_baitOf)
theorem gfX12_wishOf_3 : GoodIn vfX12_wishOf (wsV RX12 316 RX11 yX11_wish vfX11_wish) := goodIn_app (goodIn_r [.methodLink RX12 316 yX11_wish, .instanceMethod yX11_wish, .selects RX11 yX11_wish yX11_wish, .initialized RX11] [12, 13, 14, 15] rfl (by decide +kernel)) (goodIn_m (fun _ h => (List.mem_cons_of_mem _ (List.mem_append_right _ (List.mem_append_right _ (List.mem_append_right _ (List.mem_append_right _ (List.mem_append_right _ h))))))) qfX11_wish)
set_option maxHeartbeats 2000000 in
set_option maxRecDepth 100000 in
theorem kfX12_wishOf (l : Launch) (dC : Nat → ClassId) (dI : Nat → Nat → Nat) (a0 : Nat) (k1 : Int32) (k2 : Int32) (a3 : Nat) (uq : Nat → Nat) (kq : Nat → ClassId) (g6 : Value) (g7 : Value) (g8 : Value) (g9 : Value) (g10 : Value) (g11 : Value) (g12 : Value) (g13 : Value) (g14 : Value) (g15 : Value) (g16 : Value) (g17 : Value) (g18 : Value) (g19 : Value) (g20 : Value) (g21 : Value) (g22 : Value) (g23 : Value) (g24 : Value) (g25 : Value) (g26 : Value) (g27 : Value) (g28 : Value) (g29 : Value) (g30 : Value) (g31 : Value) (g32 : Value) (g33 : Value) (g34 : Value) (q_q : TX11_q) (sz : Nat) (out : Int32) (h : f_X12_wishOf k1 k2 q_q = some out) : Met l yX12_wishOf vfX12_wishOf ({ frames := 3, cells := 0, slots := 0, locals := 71 }) (PC (dC, dI) [.ref a0, .int k1, .int k2] sz ((a0, .inr (9, [g6, g7, g8, .ref a3, g9, g10, g11, g12, g13, g14, g15, g16, g17, g18, g19, g20, g21, g22, g23, g24, g25, g26, g27, g28, g29, g30, g31, g32, g33, g34])) :: bX11 a3 uq kq q_q []) (tX11 kq ([]))) (va_Qi (S := Unit) (fun (r : Int32) _ => r = out) (fun _ t => BC (dC, dI) (va_A ((a0, .inr (9, [g6, g7, g8, .ref a3, g9, g10, g11, g12, g13, g14, g15, g16, g17, g18, g19, g20, g21, g22, g23, g24, g25, g26, g27, g28, g29, g30, g31, g32, g33, g34])) :: bX11 a3 uq kq q_q []) sz) ((a0, .inr (9, [g6, g7, g8, .ref a3, g9, g10, g11, g12, g13, g14, g15, g16, g17, g18, g19, g20, g21, g22, g23, g24, g25, g26, g27, g28, g29, g30, g31, g32, g33, g34])) :: bX11 a3 uq kq q_q []) [] t) (va_A ((a0, .inr (9, [g6, g7, g8, .ref a3, g9, g10, g11, g12, g13, g14, g15, g16, g17, g18, g19, g20, g21, g22, g23, g24, g25, g26, g27, g28, g29, g30, g31, g32, g33, g34])) :: bX11 a3 uq kq q_q []) sz)) 0 0 (va_A ((a0, .inr (9, [g6, g7, g8, .ref a3, g9, g10, g11, g12, g13, g14, g15, g16, g17, g18, g19, g20, g21, g22, g23, g24, g25, g26, g27, g28, g29, g30, g31, g32, g33, g34])) :: bX11 a3 uq kq q_q []) sz) := by
  refine Met.ofW (cc := cX12_wishOf) (maxL := 3) (ret := (some .int)) (by decide) rfl ?_
  intro p e s m args below meth c s₁ B0 hml hv
  obtain ⟨rfl, hsz, hP, hK, hD0, hN⟩ := hv
  have hx := B0.exec
  have hb := B0.bytes
  have hr := B0.returns
  have hts := atoms_spec (ws := vfX12_wishOf) B0.pre
  have hown : s.vm.findClass RX12 = some m.cls := findClass_of_methodNamed B0.named
  have hlocks := B0.notSynchronized
  subst hsz
  have hD := hD0.self (sz := s.heap.size)
  generalize hAe : va_A ((a0, .inr (9, [g6, g7, g8, .ref a3, g9, g10, g11, g12, g13, g14, g15, g16, g17, g18, g19, g20, g21, g22, g23, g24, g25, g26, g27, g28, g29, g30, g31, g32, g33, g34])) :: bX11 a3 uq kq q_q []) s.heap.size = A at hD ⊢
  have hA : ∀ q : Nat, s.heap.size ≤ q → A q := fun q h => by rw [← hAe]; exact Or.inr h
  have hS : va_S A s.heap s.heap [] := va_S.rf
  have hP : va_P (dC, dI) vwCl ((a0, .inr (9, [g6, g7, g8, .ref a3, g9, g10, g11, g12, g13, g14, g15, g16, g17, g18, g19, g20, g21, g22, g23, g24, g25, g26, g27, g28, g29, g30, g31, g32, g33, g34])) :: bX11 a3 uq kq q_q []) s.heap := hP
  have hl := lv_entry ([.ref a0, .int k1, .int k2]) (n := 3) (Nat.le_of_ble_eq_true rfl)
  rw [lg_entry_eq]
  generalize (lg_sl ([.ref a0, .int k1, .int k2]) ++ List.replicate (3 - (lg_sl ([.ref a0, .int k1, .int k2])).length) Slot.unset).toArray = ls at hl ⊢
  have hl : lv_has ls 3 [(0, .ref a0), (1, .int k1), (2, .int k2)] := hl
  refine W_q (fun QQ hQQ => ?_)
  rw [f_X12_wishOf] at h
  refine lv_aload_n hx hb dX12_wishOf_0 rfl (lv_at hl 0 rfl) ?_
  refine va_get (D := (dC, dI)) (ci := 9) (v := .ref a3) (C := RX12) (T := TX12) (N := 30) hx hb hts ifX12_wishOf_X12 hown hK hP 0 rfl rfl 3 (by decide) (hts (.fieldLink RX12 299 "HookPierModel" "pier" "LHookPierModel$Pier;") (List.mem_of_getElem? (i := 1) rfl)) (fun _ h9 => h9) rfl dX12_wishOf_1 ?_
  refine lv_iload_n hx hb dX12_wishOf_4 rfl (lv_at hl 1 rfl) ?_
  refine lv_aload_n hx hb dX12_wishOf_5 rfl (lv_at hl 0 rfl) ?_
  refine lv_iload_n hx hb dX12_wishOf_6 rfl (lv_at hl 2 rfl) ?_
  obtain ⟨o7, eo7, h⟩ := bd_of h
  refine cl_i (wc := ((a0, .inr (9, [g6, g7, g8, .ref a3, g9, g10, g11, g12, g13, g14, g15, g16, g17, g18, g19, g20, g21, g22, g23, g24, g25, g26, g27, g28, g29, g30, g31, g32, g33, g34])) :: bX11 a3 uq kq q_q [])) (wr := []) (va_runV (As := [.int k2]) (rest := [.int k1, .ref a3]) ⟨hx, hb, hml, hown, hts⟩ (kfX12_spotOf l dC dI a0 k2 a3 uq kq (g6) (g7) (g8) (g9) (g10) (g11) (g12) (g13) (g14) (g15) (g16) (g17) (g18) (g19) (g20) (g21) (g22) (g23) (g24) (g25) (g26) (g27) (g28) (g29) (g30) (g31) (g32) (g33) (g34) q_q s.heap.size o7 eo7) (cwV 1 hts gfX12_wishOf_0 rfl rfl rfl (by decide +kernel) ⟨(Nat.le_of_ble_eq_true rfl), (Nat.le_of_ble_eq_true rfl)⟩) (PV (hP.sub (ws' := ((a0, .inr (9, [g6, g7, g8, .ref a3, g9, g10, g11, g12, g13, g14, g15, g16, g17, g18, g19, g20, g21, g22, g23, g24, g25, g26, g27, g28, g29, g30, g31, g32, g33, g34])) :: bX11 a3 uq kq q_q [])) [0, 1, 2, 3, 4, 5, 6, 7, 8, 9, 10, 11, 12, 13, 14, 15] rfl) (hK.sub (tys' := (tX11 kq ([]))) [0, 1, 2, 3, 4, 5, 6, 7, 8, 9, 10, 11, 12, 13] rfl) (hD.sub (ws' := ((a0, .inr (9, [g6, g7, g8, .ref a3, g9, g10, g11, g12, g13, g14, g15, g16, g17, g18, g19, g20, g21, g22, g23, g24, g25, g26, g27, g28, g29, g30, g31, g32, g33, g34])) :: bX11 a3 uq kq q_q [])) [0, 1, 2, 3, 4, 5, 6, 7, 8, 9, 10, 11, 12, 13, 14, 15] (by decide) rfl) hN 0 rfl rfl) rfl rfl hl.1 rfl (lv_room (Nat.le_of_ble_eq_true rfl)) dX12_wishOf_7 ⟨(Nat.le_of_ble_eq_true rfl), (Nat.le_of_ble_eq_true rfl)⟩) hP hD hK hS hA [0, 1, 2, 3, 4, 5, 6, 7, 8, 9, 10, 11, 12, 13, 14, 15] [] rfl rfl (by decide) (by decide) (fun r7 _ H locs hw hP hD _ hS => ?_)
  obtain rfl := hw.symm
  have hP : va_P (dC, dI) vwCl ((a0, .inr (9, [g6, g7, g8, .ref a3, g9, g10, g11, g12, g13, g14, g15, g16, g17, g18, g19, g20, g21, g22, g23, g24, g25, g26, g27, g28, g29, g30, g31, g32, g33, g34])) :: bX11 a3 uq kq q_q []) H := hP
  have hD : va_D A ((a0, .inr (9, [g6, g7, g8, .ref a3, g9, g10, g11, g12, g13, g14, g15, g16, g17, g18, g19, g20, g21, g22, g23, g24, g25, g26, g27, g28, g29, g30, g31, g32, g33, g34])) :: bX11 a3 uq kq q_q []) := hD
  refine lv_aload_n hx hb dX12_wishOf_10 rfl (lv_at hl 0 rfl) ?_
  refine lv_iload_n hx hb dX12_wishOf_11 rfl (lv_at hl 2 rfl) ?_
  obtain ⟨o12, eo12, h⟩ := bd_of h
  refine cl_i (wc := ((a0, .inr (9, [g6, g7, g8, .ref a3, g9, g10, g11, g12, g13, g14, g15, g16, g17, g18, g19, g20, g21, g22, g23, g24, g25, g26, g27, g28, g29, g30, g31, g32, g33, g34])) :: bX11 a3 uq kq q_q [])) (wr := []) (va_runV (As := [.int k2]) (rest := [.int o7, .int k1, .ref a3]) ⟨hx, hb, hml, hown, hts⟩ (kfX12_fathomsOf l dC dI a0 k2 a3 uq kq (g6) (g7) (g8) (g9) (g10) (g11) (g12) (g13) (g14) (g15) (g16) (g17) (g18) (g19) (g20) (g21) (g22) (g23) (g24) (g25) (g26) (g27) (g28) (g29) (g30) (g31) (g32) (g33) (g34) q_q H.size o12 eo12) (cwV 1 hts gfX12_wishOf_1 rfl rfl rfl (by decide +kernel) ⟨(Nat.le_of_ble_eq_true rfl), (Nat.le_of_ble_eq_true rfl)⟩) (PV (hP.sub (ws' := ((a0, .inr (9, [g6, g7, g8, .ref a3, g9, g10, g11, g12, g13, g14, g15, g16, g17, g18, g19, g20, g21, g22, g23, g24, g25, g26, g27, g28, g29, g30, g31, g32, g33, g34])) :: bX11 a3 uq kq q_q [])) [0, 1, 2, 3, 4, 5, 6, 7, 8, 9, 10, 11, 12, 13, 14, 15] rfl) (hK.sub (tys' := (tX11 kq ([]))) [0, 1, 2, 3, 4, 5, 6, 7, 8, 9, 10, 11, 12, 13] rfl) (hD.sub (ws' := ((a0, .inr (9, [g6, g7, g8, .ref a3, g9, g10, g11, g12, g13, g14, g15, g16, g17, g18, g19, g20, g21, g22, g23, g24, g25, g26, g27, g28, g29, g30, g31, g32, g33, g34])) :: bX11 a3 uq kq q_q [])) [0, 1, 2, 3, 4, 5, 6, 7, 8, 9, 10, 11, 12, 13, 14, 15] (by decide) rfl) hN 0 rfl rfl) rfl rfl hl.1 rfl (lv_room (Nat.le_of_ble_eq_true rfl)) dX12_wishOf_12 ⟨(Nat.le_of_ble_eq_true rfl), (Nat.le_of_ble_eq_true rfl)⟩) hP hD hK hS hA [0, 1, 2, 3, 4, 5, 6, 7, 8, 9, 10, 11, 12, 13, 14, 15] [] rfl rfl (by decide) (by decide) (fun r12 _ H locs hw hP hD _ hS => ?_)
  obtain rfl := hw.symm
  have hP : va_P (dC, dI) vwCl ((a0, .inr (9, [g6, g7, g8, .ref a3, g9, g10, g11, g12, g13, g14, g15, g16, g17, g18, g19, g20, g21, g22, g23, g24, g25, g26, g27, g28, g29, g30, g31, g32, g33, g34])) :: bX11 a3 uq kq q_q []) H := hP
  have hD : va_D A ((a0, .inr (9, [g6, g7, g8, .ref a3, g9, g10, g11, g12, g13, g14, g15, g16, g17, g18, g19, g20, g21, g22, g23, g24, g25, g26, g27, g28, g29, g30, g31, g32, g33, g34])) :: bX11 a3 uq kq q_q []) := hD
  refine lv_aload_n hx hb dX12_wishOf_15 rfl (lv_at hl 0 rfl) ?_
  refine lv_iload_n hx hb dX12_wishOf_16 rfl (lv_at hl 2 rfl) ?_
  obtain ⟨o17, eo17, h⟩ := bd_of h
  refine cl_i (wc := ((a0, .inr (9, [g6, g7, g8, .ref a3, g9, g10, g11, g12, g13, g14, g15, g16, g17, g18, g19, g20, g21, g22, g23, g24, g25, g26, g27, g28, g29, g30, g31, g32, g33, g34])) :: bX11 a3 uq kq q_q [])) (wr := []) (va_runV (As := [.int k2]) (rest := [.int o12, .int o7, .int k1, .ref a3]) ⟨hx, hb, hml, hown, hts⟩ (kfX12_baitOf l dC dI a0 k2 a3 uq kq (g6) (g7) (g8) (g9) (g10) (g11) (g12) (g13) (g14) (g15) (g16) (g17) (g18) (g19) (g20) (g21) (g22) (g23) (g24) (g25) (g26) (g27) (g28) (g29) (g30) (g31) (g32) (g33) (g34) q_q H.size o17 eo17) (cwV 1 hts gfX12_wishOf_2 rfl rfl rfl (by decide +kernel) ⟨(Nat.le_of_ble_eq_true rfl), (Nat.le_of_ble_eq_true rfl)⟩) (PV (hP.sub (ws' := ((a0, .inr (9, [g6, g7, g8, .ref a3, g9, g10, g11, g12, g13, g14, g15, g16, g17, g18, g19, g20, g21, g22, g23, g24, g25, g26, g27, g28, g29, g30, g31, g32, g33, g34])) :: bX11 a3 uq kq q_q [])) [0, 1, 2, 3, 4, 5, 6, 7, 8, 9, 10, 11, 12, 13, 14, 15] rfl) (hK.sub (tys' := (tX11 kq ([]))) [0, 1, 2, 3, 4, 5, 6, 7, 8, 9, 10, 11, 12, 13] rfl) (hD.sub (ws' := ((a0, .inr (9, [g6, g7, g8, .ref a3, g9, g10, g11, g12, g13, g14, g15, g16, g17, g18, g19, g20, g21, g22, g23, g24, g25, g26, g27, g28, g29, g30, g31, g32, g33, g34])) :: bX11 a3 uq kq q_q [])) [0, 1, 2, 3, 4, 5, 6, 7, 8, 9, 10, 11, 12, 13, 14, 15] (by decide) rfl) hN 0 rfl rfl) rfl rfl hl.1 rfl (lv_room (Nat.le_of_ble_eq_true rfl)) dX12_wishOf_17 ⟨(Nat.le_of_ble_eq_true rfl), (Nat.le_of_ble_eq_true rfl)⟩) hP hD hK hS hA [0, 1, 2, 3, 4, 5, 6, 7, 8, 9, 10, 11, 12, 13, 14, 15] [] rfl rfl (by decide) (by decide) (fun r17 _ H locs hw hP hD _ hS => ?_)
  obtain rfl := hw.symm
  have hP : va_P (dC, dI) vwCl ((a0, .inr (9, [g6, g7, g8, .ref a3, g9, g10, g11, g12, g13, g14, g15, g16, g17, g18, g19, g20, g21, g22, g23, g24, g25, g26, g27, g28, g29, g30, g31, g32, g33, g34])) :: bX11 a3 uq kq q_q []) H := hP
  have hD : va_D A ((a0, .inr (9, [g6, g7, g8, .ref a3, g9, g10, g11, g12, g13, g14, g15, g16, g17, g18, g19, g20, g21, g22, g23, g24, g25, g26, g27, g28, g29, g30, g31, g32, g33, g34])) :: bX11 a3 uq kq q_q []) := hD
  obtain ⟨o20, eo20, h⟩ := bd_of h
  refine cl_i (wc := (bX11 a3 uq kq q_q [])) (wr := ([(a0, .inr (9, [g6, g7, g8, .ref a3, g9, g10, g11, g12, g13, g14, g15, g16, g17, g18, g19, g20, g21, g22, g23, g24, g25, g26, g27, g28, g29, g30, g31, g32, g33, g34]))])) (va_runV (As := [.int k1, .int o7, .int o12, .int o17]) (rest := []) ⟨hx, hb, hml, hown, hts⟩ (kfX11_wish l dC dI a3 k1 o7 o12 o17 uq kq q_q H.size o20 eo20) (cwV 4 hts gfX12_wishOf_3 rfl rfl rfl (by decide +kernel) ⟨(Nat.le_of_ble_eq_true rfl), (Nat.le_of_ble_eq_true rfl)⟩) (PV (hP.sub (ws' := (bX11 a3 uq kq q_q [])) [1, 2, 3, 4, 5, 6, 7, 8, 9, 10, 11, 12, 13, 14, 15] rfl) (hK.sub (tys' := (tX11 kq ([]))) [0, 1, 2, 3, 4, 5, 6, 7, 8, 9, 10, 11, 12, 13] rfl) (hD.sub (ws' := (bX11 a3 uq kq q_q [])) [1, 2, 3, 4, 5, 6, 7, 8, 9, 10, 11, 12, 13, 14, 15] (by decide) rfl) hN 0 rfl rfl) rfl rfl hl.1 rfl (lv_room (Nat.le_of_ble_eq_true rfl)) dX12_wishOf_20 ⟨(Nat.le_of_ble_eq_true rfl), (Nat.le_of_ble_eq_true rfl)⟩) hP hD hK hS hA [1, 2, 3, 4, 5, 6, 7, 8, 9, 10, 11, 12, 13, 14, 15] [0] rfl rfl (by decide) (by decide) (fun r20 _ H locs hw hP hD _ hS => ?_)
  obtain rfl := hw.symm
  have hP : va_P (dC, dI) vwCl ((a0, .inr (9, [g6, g7, g8, .ref a3, g9, g10, g11, g12, g13, g14, g15, g16, g17, g18, g19, g20, g21, g22, g23, g24, g25, g26, g27, g28, g29, g30, g31, g32, g33, g34])) :: bX11 a3 uq kq q_q []) H := hP
  have hD : va_D A ((a0, .inr (9, [g6, g7, g8, .ref a3, g9, g10, g11, g12, g13, g14, g15, g16, g17, g18, g19, g20, g21, g22, g23, g24, g25, g26, g27, g28, g29, g30, g31, g32, g33, g34])) :: bX11 a3 uq kq q_q []) := hD
  obtain rfl := Option.some.inj h
  have hP9 := hP.sub (ws' := ((a0, .inr (9, [g6, g7, g8, .ref a3, g9, g10, g11, g12, g13, g14, g15, g16, g17, g18, g19, g20, g21, g22, g23, g24, g25, g26, g27, g28, g29, g30, g31, g32, g33, g34])) :: bX11 a3 uq kq q_q [])) [0, 1, 2, 3, 4, 5, 6, 7, 8, 9, 10, 11, 12, 13, 14, 15] rfl
  have hD9 := hD.sub (ws' := ((a0, .inr (9, [g6, g7, g8, .ref a3, g9, g10, g11, g12, g13, g14, g15, g16, g17, g18, g19, g20, g21, g22, g23, g24, g25, g26, g27, g28, g29, g30, g31, g32, g33, g34])) :: bX11 a3 uq kq q_q [])) [0, 1, 2, 3, 4, 5, 6, 7, 8, 9, 10, 11, 12, 13, 14, 15] (by decide) rfl
  have hK9 := hK.sub (tys' := []) [] rfl
  rw [hQQ]
  exact W.iret (v := o20) hx hb hr (fun t ht hW => ⟨⟨o20, (), rfl, rfl, by rw [ht]; exact hP9, va_K.moved hW.alike hK9, hD9⟩, hS.F ht⟩) hS.2.2 dX12_wishOf_23
theorem dX12_taker_0 : decode cX12_taker 0 = .ok (.iconst 0, 1) := by decide +kernel
theorem dX12_taker_1 : decode cX12_taker 1 = .ok (.istore_n 3, 1) := by decide +kernel
theorem dX12_taker_10 : decode cX12_taker 10 = .ok (.if_icmp .ge 60, 3) := by decide +kernel
theorem dX12_taker_13 : decode cX12_taker 13 = .ok (.aload_n 1, 1) := by decide +kernel
theorem dX12_taker_14 : decode cX12_taker 14 = .ok (.iconst 0, 1) := by decide +kernel
theorem dX12_taker_15 : decode cX12_taker 15 = .ok (.iload_n 3, 1) := by decide +kernel
theorem dX12_taker_16 : decode cX12_taker 16 = .ok (.iadd, 1) := by decide +kernel
theorem dX12_taker_17 : decode cX12_taker 17 = .ok (.iaload, 1) := by decide +kernel
theorem dX12_taker_18 : decode cX12_taker 18 = .ok (.ifCond .eq 6, 3) := by decide +kernel
theorem dX12_taker_2 : decode cX12_taker 2 = .ok (.iload_n 3, 1) := by decide +kernel
theorem dX12_taker_21 : decode cX12_taker 21 = .ok (.goto 43, 3) := by decide +kernel
theorem dX12_taker_24 : decode cX12_taker 24 = .ok (.aload_n 1, 1) := by decide +kernel
theorem dX12_taker_25 : decode cX12_taker 25 = .ok (.bipush 24, 2) := by decide +kernel
theorem dX12_taker_27 : decode cX12_taker 27 = .ok (.ldc2_w 463, 3) := by decide +kernel
theorem dX12_taker_3 : decode cX12_taker 3 = .ok (.aload_n 0, 1) := by decide +kernel
theorem dX12_taker_30 : decode cX12_taker 30 = .ok (.aload_n 1, 1) := by decide +kernel
theorem dX12_taker_31 : decode cX12_taker 31 = .ok (.bipush 24, 2) := by decide +kernel
theorem dX12_taker_33 : decode cX12_taker 33 = .ok (.iaload, 1) := by decide +kernel
theorem dX12_taker_34 : decode cX12_taker 34 = .ok (.i2l, 1) := by decide +kernel
theorem dX12_taker_35 : decode cX12_taker 35 = .ok (.lmul, 1) := by decide +kernel
theorem dX12_taker_36 : decode cX12_taker 36 = .ok (.ldc2_w 465, 3) := by decide +kernel
theorem dX12_taker_39 : decode cX12_taker 39 = .ok (.ladd, 1) := by decide +kernel
theorem dX12_taker_4 : decode cX12_taker 4 = .ok (.getfield 299, 3) := by decide +kernel
theorem dX12_taker_40 : decode cX12_taker 40 = .ok (.ldc2_w 467, 3) := by decide +kernel
theorem dX12_taker_43 : decode cX12_taker 43 = .ok (.lrem, 1) := by decide +kernel
theorem dX12_taker_44 : decode cX12_taker 44 = .ok (.l2i, 1) := by decide +kernel
theorem dX12_taker_45 : decode cX12_taker 45 = .ok (.iastore, 1) := by decide +kernel
theorem dX12_taker_46 : decode cX12_taker 46 = .ok (.aload_n 1, 1) := by decide +kernel
theorem dX12_taker_47 : decode cX12_taker 47 = .ok (.bipush 24, 2) := by decide +kernel
theorem dX12_taker_49 : decode cX12_taker 49 = .ok (.iaload, 1) := by decide +kernel
theorem dX12_taker_50 : decode cX12_taker 50 = .ok (.bipush 100, 2) := by decide +kernel
theorem dX12_taker_52 : decode cX12_taker 52 = .ok (.irem, 1) := by decide +kernel
theorem dX12_taker_53 : decode cX12_taker 53 = .ok (.aload_n 0, 1) := by decide +kernel
theorem dX12_taker_54 : decode cX12_taker 54 = .ok (.iload_n 3, 1) := by decide +kernel
theorem dX12_taker_55 : decode cX12_taker 55 = .ok (.iload_n 2, 1) := by decide +kernel
theorem dX12_taker_56 : decode cX12_taker 56 = .ok (.invokevirtual 346, 3) := by decide +kernel
theorem dX12_taker_59 : decode cX12_taker 59 = .ok (.if_icmp .ge 5, 3) := by decide +kernel
theorem dX12_taker_62 : decode cX12_taker 62 = .ok (.iload_n 3, 1) := by decide +kernel
theorem dX12_taker_63 : decode cX12_taker 63 = .ok (.ireturn, 1) := by decide +kernel
theorem dX12_taker_64 : decode cX12_taker 64 = .ok (.iinc 3 1, 3) := by decide +kernel
theorem dX12_taker_67 : decode cX12_taker 67 = .ok (.goto (-65), 3) := by decide +kernel
theorem dX12_taker_7 : decode cX12_taker 7 = .ok (.getfield 231, 3) := by decide +kernel
theorem dX12_taker_70 : decode cX12_taker 70 = .ok (.bipush (-2), 2) := by decide +kernel
theorem dX12_taker_72 : decode cX12_taker 72 = .ok (.ireturn, 1) := by decide +kernel
def vfX12_taker : List Cond := List.cons (.code yX12_taker cX12_taker 4 (some .int)) (apW [.fieldLink RX12 299 "HookPierModel" "pier" "LHookPierModel$Pier;", .constantLong RX12 463 (75), .constantLong RX12 465 (74), .constantLong RX12 467 (65537), .methodLink RX12 346 yX12_wishOf, .instanceMethod yX12_wishOf, .selects RX12 yX12_wishOf yX12_wishOf, .initialized RX12] (apW wsX120 (apW wsX110 (vfX12_wishOf))))
theorem ifX12_taker_X12 : ∀ w ∈ wsX120, w ∈ vfX12_taker := fun _ h => (List.mem_cons_of_mem _ (List.mem_append_right _ (List.mem_append_left _ h)))
theorem ifX12_taker_X11 : ∀ w ∈ wsX110, w ∈ vfX12_taker := fun _ h => (List.mem_cons_of_mem _ (List.mem_append_right _ (List.mem_append_right _ (List.mem_append_left _ h))))
theorem qfX12_taker : Good vfX12_taker := gd_cons (by decide +kernel) (gd_app (gd_dec (by decide +kernel) : Good [.fieldLink RX12 299 "HookPierModel" "pier" "LHookPierModel$Pier;", .constantLong RX12 463 (75), .constantLong RX12 465 (74), .constantLong RX12 467 (65537), .methodLink RX12 346 yX12_wishOf, .instanceMethod yX12_wishOf, .selects RX12 yX12_wishOf yX12_wishOf, .initialized RX12]) (gd_app qsX12 (gd_app qsX11 qfX12_wishOf)))
theorem gfX12_taker_0 : GoodIn vfX12_taker (wsV RX12 346 RX12 yX12_wishOf vfX12_wishOf) := goodIn_app (goodIn_r [.methodLink RX12 346 yX12_wishOf, .instanceMethod yX12_wishOf, .selects RX12 yX12_wishOf yX12_wishOf, .initialized RX12] [5, 6, 7, 8] rfl (by decide +kernel)) (goodIn_m (fun _ h => (List.mem_cons_of_mem _ (List.mem_append_right _ (List.mem_append_right _ (List.mem_append_right _ h))))) qfX12_wishOf)
set_option maxHeartbeats 2000000 in
set_option maxRecDepth 100000 in
theorem kfX12_taker (l : Launch) (dC : Nat → ClassId) (dI : Nat → Nat → Nat) (a0 : Nat) (a1 : Nat) (k2 : Int32) (a3 : Nat) (uq : Nat → Nat) (kq : Nat → ClassId) (m_v : TX12_v) (g7 : Value) (g8 : Value) (g9 : Value) (g10 : Value) (g11 : Value) (g12 : Value) (g13 : Value) (g14 : Value) (g15 : Value) (g16 : Value) (g17 : Value) (g18 : Value) (g19 : Value) (g20 : Value) (g21 : Value) (g22 : Value) (g23 : Value) (g24 : Value) (g25 : Value) (g26 : Value) (g27 : Value) (g28 : Value) (g29 : Value) (g30 : Value) (g31 : Value) (g32 : Value) (g33 : Value) (g34 : Value) (q_q : TX11_q) (cB36 : ClassId) (sz : Nat) (out : (Int32 × TX12_v)) (h : f_X12_taker k2 m_v q_q = some out) : Met l yX12_taker vfX12_taker ({ frames := 4, cells := 0, slots := 0, locals := 93 }) (PC (dC, dI) [.ref a0, .ref a1, .int k2] sz ((a0, .inr (9, [g7, g8, g9, .ref a3, g10, g11, g12, g13, g14, g15, g16, g17, g18, g19, g20, .ref a1, g21, g22, g23, g24, g25, g26, g27, g28, g29, g30, g31, g32, g33, g34])) :: bX11 a3 uq kq q_q ([(a1, .inl (cB36, 26, .inl m_v))])) (tX11 kq ((cB36, .int) :: []))) (va_Qi (S := Unit) (fun (r : Int32) _ => r = out.1) (fun _ t => BC (dC, dI) (va_A ((a0, .inr (9, [g7, g8, g9, .ref a3, g10, g11, g12, g13, g14, g15, g16, g17, g18, g19, g20, .ref a1, g21, g22, g23, g24, g25, g26, g27, g28, g29, g30, g31, g32, g33, g34])) :: bX11 a3 uq kq q_q ([(a1, .inl (cB36, 26, .inl m_v))])) sz) ((a0, .inr (9, [g7, g8, g9, .ref a3, g10, g11, g12, g13, g14, g15, g16, g17, g18, g19, g20, .ref a1, g21, g22, g23, g24, g25, g26, g27, g28, g29, g30, g31, g32, g33, g34])) :: bX11 a3 uq kq q_q ([(a1, .inl (cB36, 26, .inl out.2))])) [] t) (va_A ((a0, .inr (9, [g7, g8, g9, .ref a3, g10, g11, g12, g13, g14, g15, g16, g17, g18, g19, g20, .ref a1, g21, g22, g23, g24, g25, g26, g27, g28, g29, g30, g31, g32, g33, g34])) :: bX11 a3 uq kq q_q ([(a1, .inl (cB36, 26, .inl m_v))])) sz)) 0 0 (va_A ((a0, .inr (9, [g7, g8, g9, .ref a3, g10, g11, g12, g13, g14, g15, g16, g17, g18, g19, g20, .ref a1, g21, g22, g23, g24, g25, g26, g27, g28, g29, g30, g31, g32, g33, g34])) :: bX11 a3 uq kq q_q ([(a1, .inl (cB36, 26, .inl m_v))])) sz) := by
  refine Met.ofW (cc := cX12_taker) (maxL := 4) (ret := (some .int)) (by decide) rfl ?_
  intro p e s m args below meth c s₁ B0 hml hv
  obtain ⟨rfl, hsz, hP, hK, hD0, hN⟩ := hv
  have hx := B0.exec
  have hb := B0.bytes
  have hr := B0.returns
  have hts := atoms_spec (ws := vfX12_taker) B0.pre
  have hown : s.vm.findClass RX12 = some m.cls := findClass_of_methodNamed B0.named
  have hlocks := B0.notSynchronized
  subst hsz
  have hD := hD0.self (sz := s.heap.size)
  generalize hAe : va_A ((a0, .inr (9, [g7, g8, g9, .ref a3, g10, g11, g12, g13, g14, g15, g16, g17, g18, g19, g20, .ref a1, g21, g22, g23, g24, g25, g26, g27, g28, g29, g30, g31, g32, g33, g34])) :: bX11 a3 uq kq q_q ([(a1, .inl (cB36, 26, .inl m_v))])) s.heap.size = A at hD ⊢
  have hA : ∀ q : Nat, s.heap.size ≤ q → A q := fun q h => by rw [← hAe]; exact Or.inr h
  have hS : va_S A s.heap s.heap [] := va_S.rf
  have hP : va_P (dC, dI) vwCl ((a0, .inr (9, [g7, g8, g9, .ref a3, g10, g11, g12, g13, g14, g15, g16, g17, g18, g19, g20, .ref a1, g21, g22, g23, g24, g25, g26, g27, g28, g29, g30, g31, g32, g33, g34])) :: bX11 a3 uq kq q_q ([(a1, .inl (cB36, 26, .inl m_v))])) s.heap := hP
  have hl := lv_entry ([.ref a0, .ref a1, .int k2]) (n := 4) (Nat.le_of_ble_eq_true rfl)
  rw [lg_entry_eq]
  generalize (lg_sl ([.ref a0, .ref a1, .int k2]) ++ List.replicate (4 - (lg_sl ([.ref a0, .ref a1, .int k2])).length) Slot.unset).toArray = ls at hl ⊢
  have hl : lv_has ls 4 [(0, .ref a0), (1, .ref a1), (2, .int k2)] := hl
  refine W_q (fun QQ hQQ => ?_)
  rw [f_X12_taker] at h
  refine lv_iconst (v := 0) hx hb dX12_taker_0 (by decide) ?_
  refine lv_istore_n (lv' := [(3, .int 0), (0, .ref a0), (1, .ref a1), (2, .int k2)]) hx hb dX12_taker_1 rfl hl (by decide) rfl (fun ls hl => ?_)
  have L2 : ∀ (n2 : Nat) (v2_l3 : Int32) (v2_m_v : TX12_v) (H : Heap) (locs : List Loc) (ls : Array Slot), f_X12_taker_L2 k2 q_q n2 v2_l3 v2_m_v = some out → va_P (dC, dI) vwCl ((a0, .inr (9, [g7, g8, g9, .ref a3, g10, g11, g12, g13, g14, g15, g16, g17, g18, g19, g20, .ref a1, g21, g22, g23, g24, g25, g26, g27, g28, g29, g30, g31, g32, g33, g34])) :: bX11 a3 uq kq q_q ([(a1, .inl (cB36, 26, .inl v2_m_v))])) H → va_D A ((a0, .inr (9, [g7, g8, g9, .ref a3, g10, g11, g12, g13, g14, g15, g16, g17, g18, g19, g20, .ref a1, g21, g22, g23, g24, g25, g26, g27, g28, g29, g30, g31, g32, g33, g34])) :: bX11 a3 uq kq q_q ([(a1, .inl (cB36, 26, .inl v2_m_v))])) → va_S A s.heap H locs → lv_has ls 4 [(3, .int v2_l3), (0, .ref a0), (1, .ref a1), (2, .int k2)] → W p l e (headSpec vfX12_taker { frames := 4, cells := 0, slots := 0, locals := 93 }).room s m ([.ref a0, .ref a1, .int k2]).toArray below meth c H locs 0 0 QQ (F0 m 2 ls []) := by
    intro n2
    induction n2 with
    | zero =>
      intro v2_l3 v2_m_v H locs ls h  _ _ _ _
      rw [f_X12_taker_L2] at h
      cases h
    | succ n2 ih2 =>
      intro v2_l3 v2_m_v H locs ls h  hP hD hS hl
      rw [f_X12_taker_L2] at h
      refine lv_iload_n hx hb dX12_taker_2 rfl (lv_at hl 0 rfl) ?_
      refine lv_aload_n hx hb dX12_taker_3 rfl (lv_at hl 1 rfl) ?_
      refine va_get (D := (dC, dI)) (ci := 9) (v := .ref a3) (C := RX12) (T := TX12) (N := 30) hx hb hts ifX12_taker_X12 hown hK hP 0 rfl rfl 3 (by decide) (hts (.fieldLink RX12 299 "HookPierModel" "pier" "LHookPierModel$Pier;") (List.mem_of_getElem? (i := 1) rfl)) (fun _ h9 => h9) rfl dX12_taker_4 ?_
      refine va_getN (D := (dC, dI)) (ci := 8) (v := .int q_q.2.2.2.2.2.2.1) (C := RX11) (T := TX11) (N := 24) hx hb hts ifX12_taker_X11 hown hK hP 1 rfl rfl 6 (by decide) (va_Nw.use rfl (hN.1 (.fieldLinkNest RX12 231 "HookPierModel$Pier" "answers" "I" "HookPierModel") (List.mem_of_getElem? (i := 28) rfl))) (fun _ h9 => h9) rfl dX12_taker_7 ?_
      refine lv_icmp_ge (tgt := 70) hx hb dX12_taker_10 (by decide) (fun c10 => ?_) (fun c10 => ?_)
      · have h := (if_pos c10).symm.trans h
        refine lv_bipush (v := (-2)) hx hb dX12_taker_70 (by decide) ?_
        obtain rfl := Option.some.inj h
        have hP9 := hP.sub (ws' := ((a0, .inr (9, [g7, g8, g9, .ref a3, g10, g11, g12, g13, g14, g15, g16, g17, g18, g19, g20, .ref a1, g21, g22, g23, g24, g25, g26, g27, g28, g29, g30, g31, g32, g33, g34])) :: bX11 a3 uq kq q_q ([(a1, .inl (cB36, 26, .inl v2_m_v))]))) [0, 1, 2, 3, 4, 5, 6, 7, 8, 9, 10, 11, 12, 13, 14, 15, 16] rfl
        have hD9 := hD.sub (ws' := ((a0, .inr (9, [g7, g8, g9, .ref a3, g10, g11, g12, g13, g14, g15, g16, g17, g18, g19, g20, .ref a1, g21, g22, g23, g24, g25, g26, g27, g28, g29, g30, g31, g32, g33, g34])) :: bX11 a3 uq kq q_q ([(a1, .inl (cB36, 26, .inl v2_m_v))]))) [0, 1, 2, 3, 4, 5, 6, 7, 8, 9, 10, 11, 12, 13, 14, 15, 16] (by decide) rfl
        have hK9 := hK.sub (tys' := []) [] rfl
        rw [hQQ]
        exact W.iret (v := (-2 : Int32)) hx hb hr (fun t ht hW => ⟨⟨(-2 : Int32), (), rfl, rfl, by rw [ht]; exact hP9, va_K.moved hW.alike hK9, hD9⟩, hS.F ht⟩) hS.2.2 dX12_taker_72
      · have h := (if_neg c10).symm.trans h
        refine lv_aload_n hx hb dX12_taker_13 rfl (lv_at hl 2 rfl) ?_
        refine lv_iconst (v := 0) hx hb dX12_taker_14 (by decide) ?_
        refine lv_iload_n hx hb dX12_taker_15 rfl (lv_at hl 0 rfl) ?_
        refine lv_iadd hx hb dX12_taker_16 ?_
        obtain ⟨hg17, h⟩ := gA_of h
        refine va_iald hx hb hK hP 16 14 rfl rfl hg17 dX12_taker_17 ?_
        have J64 : ∀ (v64_m_v : TX12_v) (H : Heap) (locs : List Loc) (ls : Array Slot), f_X12_taker_J64 (f_X12_taker_L2 k2 q_q n2) v2_l3 v64_m_v = some out → va_P (dC, dI) vwCl ((a1, .inl (cB36, 26, .inl v64_m_v)) :: (a0, .inr (9, [g7, g8, g9, .ref a3, g10, g11, g12, g13, g14, g15, g16, g17, g18, g19, g20, .ref a1, g21, g22, g23, g24, g25, g26, g27, g28, g29, g30, g31, g32, g33, g34])) :: bX11 a3 uq kq q_q []) H → va_D A ((a1, .inl (cB36, 26, .inl v64_m_v)) :: (a0, .inr (9, [g7, g8, g9, .ref a3, g10, g11, g12, g13, g14, g15, g16, g17, g18, g19, g20, .ref a1, g21, g22, g23, g24, g25, g26, g27, g28, g29, g30, g31, g32, g33, g34])) :: bX11 a3 uq kq q_q []) → va_S A s.heap H locs → lv_has ls 4 [(3, .int v2_l3), (0, .ref a0), (1, .ref a1), (2, .int k2)] → W p l e (headSpec vfX12_taker { frames := 4, cells := 0, slots := 0, locals := 93 }).room s m ([.ref a0, .ref a1, .int k2]).toArray below meth c H locs 0 0 QQ (F0 m 64 ls []) := by
          intro v64_m_v H locs ls h  hP hD hS hl
          rw [f_X12_taker_J64] at h
          refine lv_iinc (v := (v2_l3 + (1 : Int32))) (lv' := [(3, .int (v2_l3 + (1 : Int32))), (0, .ref a0), (1, .ref a1), (2, .int k2)]) hx hb dX12_taker_64 hl (k := 0) rfl rfl (by decide) rfl (fun ls hl => ?_)
          refine lv_goto (tgt := 2) hx hb dX12_taker_67 (by decide) ?_
          exact ih2 (v2_l3 + (1 : Int32)) v64_m_v H _ ls h  (hP.sub (ws' := ((a0, .inr (9, [g7, g8, g9, .ref a3, g10, g11, g12, g13, g14, g15, g16, g17, g18, g19, g20, .ref a1, g21, g22, g23, g24, g25, g26, g27, g28, g29, g30, g31, g32, g33, g34])) :: bX11 a3 uq kq q_q ([(a1, .inl (cB36, 26, .inl v64_m_v))]))) [1, 2, 3, 4, 5, 6, 7, 8, 9, 10, 11, 12, 13, 14, 15, 16, 0] rfl) (hD.sub (ws' := ((a0, .inr (9, [g7, g8, g9, .ref a3, g10, g11, g12, g13, g14, g15, g16, g17, g18, g19, g20, .ref a1, g21, g22, g23, g24, g25, g26, g27, g28, g29, g30, g31, g32, g33, g34])) :: bX11 a3 uq kq q_q ([(a1, .inl (cB36, 26, .inl v64_m_v))]))) [1, 2, 3, 4, 5, 6, 7, 8, 9, 10, 11, 12, 13, 14, 15, 16, 0] (by decide) rfl) hS (lv_sub hl [0, 1, 2, 3] rfl)
        refine lv_if_eq (tgt := 24) hx hb dX12_taker_18 (by decide) (fun c18 => ?_) (fun c18 => ?_)
        · have h := (if_pos c18).symm.trans h
          refine lv_aload_n hx hb dX12_taker_24 rfl (lv_at hl 2 rfl) ?_
          refine lv_bipush (v := 24) hx hb dX12_taker_25 (by decide) ?_
          refine lv_ldc2 hx hb hown (hts (.constantLong RX12 463 (75)) (List.mem_of_getElem? (i := 2) rfl)) dX12_taker_27 ?_
          refine lv_aload_n hx hb dX12_taker_30 rfl (lv_at hl 2 rfl) ?_
          refine lv_bipush (v := 24) hx hb dX12_taker_31 (by decide) ?_
          refine va_iald hx hb hK hP 16 14 rfl rfl (by unfold vp_in; decide) dX12_taker_33 ?_
          refine lv_i2l hx hb dX12_taker_34 rfl ?_
          refine lv_lmul hx hb dX12_taker_35 ?_
          refine lv_topl (fun z35 ez35 => ?_)
          have h := nm_of h z35 ez35
          refine lv_ldc2 hx hb hown (hts (.constantLong RX12 465 (74)) (List.mem_of_getElem? (i := 3) rfl)) dX12_taker_36 ?_
          refine lv_ladd hx hb dX12_taker_39 ?_
          refine lv_ldc2 hx hb hown (hts (.constantLong RX12 467 (65537)) (List.mem_of_getElem? (i := 4) rfl)) dX12_taker_40 ?_
          refine lv_lrem hx hb dX12_taker_43 (by decide) ?_
          refine lv_topl (fun z43 ez43 => ?_)
          have h := nm_of h z43 ez43
          refine lv_l2i hx hb dX12_taker_44 rfl ?_
          refine va_iast hx hb hK hP hD hS 16 14 rfl rfl (by unfold vp_in; decide) dX12_taker_45 (fun H locs hP hD hS => ?_)
          have hP : va_P (dC, dI) vwCl ((a0, .inr (9, [g7, g8, g9, .ref a3, g10, g11, g12, g13, g14, g15, g16, g17, g18, g19, g20, .ref a1, g21, g22, g23, g24, g25, g26, g27, g28, g29, g30, g31, g32, g33, g34])) :: bX11 a3 uq kq q_q ([(a1, .inl (cB36, 26, .inl (upd v2_m_v ((24 : Int32)).toNatClampNeg (z43).toInt32)))])) H := hP
          have hD : va_D A ((a0, .inr (9, [g7, g8, g9, .ref a3, g10, g11, g12, g13, g14, g15, g16, g17, g18, g19, g20, .ref a1, g21, g22, g23, g24, g25, g26, g27, g28, g29, g30, g31, g32, g33, g34])) :: bX11 a3 uq kq q_q ([(a1, .inl (cB36, 26, .inl (upd v2_m_v ((24 : Int32)).toNatClampNeg (z43).toInt32)))])) := hD
          refine lv_aload_n hx hb dX12_taker_46 rfl (lv_at hl 2 rfl) ?_
          refine lv_bipush (v := 24) hx hb dX12_taker_47 (by decide) ?_
          refine va_iald hx hb hK hP 16 14 rfl rfl (by unfold vp_in; decide) dX12_taker_49 ?_
          refine lv_topi (fun z49 ez49 => ?_)
          have h := nm_of h z49 ez49
          refine lv_bipush (v := 100) hx hb dX12_taker_50 (by decide) ?_
          refine lv_irem hx hb dX12_taker_52 (by decide) ?_
          refine lv_aload_n hx hb dX12_taker_53 rfl (lv_at hl 1 rfl) ?_
          refine lv_iload_n hx hb dX12_taker_54 rfl (lv_at hl 0 rfl) ?_
          refine lv_iload_n hx hb dX12_taker_55 rfl (lv_at hl 3 rfl) ?_
          obtain ⟨o56, eo56, h⟩ := bd_of h
          refine cl_i (wc := ((a0, .inr (9, [g7, g8, g9, .ref a3, g10, g11, g12, g13, g14, g15, g16, g17, g18, g19, g20, .ref a1, g21, g22, g23, g24, g25, g26, g27, g28, g29, g30, g31, g32, g33, g34])) :: bX11 a3 uq kq q_q [])) (wr := ([(a1, .inl (cB36, 26, .inl (upd v2_m_v ((24 : Int32)).toNatClampNeg (z43).toInt32)))])) (va_runV (As := [.int v2_l3, .int k2]) (rest := [.int (z49 - z49 / (100 : Int32) * (100 : Int32))]) ⟨hx, hb, hml, hown, hts⟩ (kfX12_wishOf l dC dI a0 v2_l3 k2 a3 uq kq (g7) (g8) (g9) (g10) (g11) (g12) (g13) (g14) (g15) (g16) (g17) (g18) (g19) (g20) (.ref a1) (g21) (g22) (g23) (g24) (g25) (g26) (g27) (g28) (g29) (g30) (g31) (g32) (g33) (g34) q_q H.size o56 eo56) (cwV 2 hts gfX12_taker_0 rfl rfl rfl (by decide +kernel) ⟨(Nat.le_of_ble_eq_true rfl), (Nat.le_of_ble_eq_true rfl)⟩) (PV (hP.sub (ws' := ((a0, .inr (9, [g7, g8, g9, .ref a3, g10, g11, g12, g13, g14, g15, g16, g17, g18, g19, g20, .ref a1, g21, g22, g23, g24, g25, g26, g27, g28, g29, g30, g31, g32, g33, g34])) :: bX11 a3 uq kq q_q [])) [0, 1, 2, 3, 4, 5, 6, 7, 8, 9, 10, 11, 12, 13, 14, 15] rfl) (hK.sub (tys' := (tX11 kq ([]))) [0, 1, 2, 3, 4, 5, 6, 7, 8, 9, 10, 11, 12, 13] rfl) (hD.sub (ws' := ((a0, .inr (9, [g7, g8, g9, .ref a3, g10, g11, g12, g13, g14, g15, g16, g17, g18, g19, g20, .ref a1, g21, g22, g23, g24, g25, g26, g27, g28, g29, g30, g31, g32, g33, g34])) :: bX11 a3 uq kq q_q [])) [0, 1, 2, 3, 4, 5, 6, 7, 8, 9, 10, 11, 12, 13, 14, 15] (by decide) rfl) hN 0 rfl rfl) rfl rfl hl.1 rfl (lv_room (Nat.le_of_ble_eq_true rfl)) dX12_taker_56 ⟨(Nat.le_of_ble_eq_true rfl), (Nat.le_of_ble_eq_true rfl)⟩) hP hD hK hS hA [0, 1, 2, 3, 4, 5, 6, 7, 8, 9, 10, 11, 12, 13, 14, 15] [16] rfl rfl (by decide) (by decide) (fun r56 _ H locs hw hP hD _ hS => ?_)
          obtain rfl := hw.symm
          have hP : va_P (dC, dI) vwCl ((a1, .inl (cB36, 26, .inl (upd v2_m_v ((24 : Int32)).toNatClampNeg (z43).toInt32))) :: (a0, .inr (9, [g7, g8, g9, .ref a3, g10, g11, g12, g13, g14, g15, g16, g17, g18, g19, g20, .ref a1, g21, g22, g23, g24, g25, g26, g27, g28, g29, g30, g31, g32, g33, g34])) :: bX11 a3 uq kq q_q []) H := hP
          have hD : va_D A ((a1, .inl (cB36, 26, .inl (upd v2_m_v ((24 : Int32)).toNatClampNeg (z43).toInt32))) :: (a0, .inr (9, [g7, g8, g9, .ref a3, g10, g11, g12, g13, g14, g15, g16, g17, g18, g19, g20, .ref a1, g21, g22, g23, g24, g25, g26, g27, g28, g29, g30, g31, g32, g33, g34])) :: bX11 a3 uq kq q_q []) := hD
          refine lv_icmp_ge (tgt := 64) hx hb dX12_taker_59 (by decide) (fun c59 => ?_) (fun c59 => ?_)
          · have h := (if_pos c59).symm.trans h
            exact J64 (upd v2_m_v ((24 : Int32)).toNatClampNeg (z43).toInt32) H _ ls h  hP hD hS (lv_sub hl [0, 1, 2, 3] rfl)
          · have h := (if_neg c59).symm.trans h
            refine lv_iload_n hx hb dX12_taker_62 rfl (lv_at hl 0 rfl) ?_
            obtain rfl := Option.some.inj h
            have hP9 := hP.sub (ws' := ((a0, .inr (9, [g7, g8, g9, .ref a3, g10, g11, g12, g13, g14, g15, g16, g17, g18, g19, g20, .ref a1, g21, g22, g23, g24, g25, g26, g27, g28, g29, g30, g31, g32, g33, g34])) :: bX11 a3 uq kq q_q ([(a1, .inl (cB36, 26, .inl (upd v2_m_v ((24 : Int32)).toNatClampNeg (z43).toInt32)))]))) [1, 2, 3, 4, 5, 6, 7, 8, 9, 10, 11, 12, 13, 14, 15, 16, 0] rfl
            have hD9 := hD.sub (ws' := ((a0, .inr (9, [g7, g8, g9, .ref a3, g10, g11, g12, g13, g14, g15, g16, g17, g18, g19, g20, .ref a1, g21, g22, g23, g24, g25, g26, g27, g28, g29, g30, g31, g32, g33, g34])) :: bX11 a3 uq kq q_q ([(a1, .inl (cB36, 26, .inl (upd v2_m_v ((24 : Int32)).toNatClampNeg (z43).toInt32)))]))) [1, 2, 3, 4, 5, 6, 7, 8, 9, 10, 11, 12, 13, 14, 15, 16, 0] (by decide) rfl
            have hK9 := hK.sub (tys' := []) [] rfl
            rw [hQQ]
            exact W.iret (v := v2_l3) hx hb hr (fun t ht hW => ⟨⟨v2_l3, (), rfl, rfl, by rw [ht]; exact hP9, va_K.moved hW.alike hK9, hD9⟩, hS.F ht⟩) hS.2.2 dX12_taker_63
        · have h := (if_neg c18).symm.trans h
          refine lv_goto (tgt := 64) hx hb dX12_taker_21 (by decide) ?_
          exact J64 v2_m_v H _ ls h  (hP.sub (ws' := ((a1, .inl (cB36, 26, .inl v2_m_v)) :: (a0, .inr (9, [g7, g8, g9, .ref a3, g10, g11, g12, g13, g14, g15, g16, g17, g18, g19, g20, .ref a1, g21, g22, g23, g24, g25, g26, g27, g28, g29, g30, g31, g32, g33, g34])) :: bX11 a3 uq kq q_q [])) [16, 0, 1, 2, 3, 4, 5, 6, 7, 8, 9, 10, 11, 12, 13, 14, 15] rfl) (hD.sub (ws' := ((a1, .inl (cB36, 26, .inl v2_m_v)) :: (a0, .inr (9, [g7, g8, g9, .ref a3, g10, g11, g12, g13, g14, g15, g16, g17, g18, g19, g20, .ref a1, g21, g22, g23, g24, g25, g26, g27, g28, g29, g30, g31, g32, g33, g34])) :: bX11 a3 uq kq q_q [])) [16, 0, 1, 2, 3, 4, 5, 6, 7, 8, 9, 10, 11, 12, 13, 14, 15] (by decide) rfl) hS (lv_sub hl [0, 1, 2, 3] rfl)
  exact L2 FU (0 : Int32) m_v s.heap _ ls h  hP hD hS (lv_sub hl [0, 1, 2, 3] rfl)
theorem dX12_goesBy_0 : decode cX12_goesBy 0 = .ok (.iconst 0, 1) := by decide +kernel
theorem dX12_goesBy_1 : decode cX12_goesBy 1 = .ok (.istore_n 2, 1) := by decide +kernel
theorem dX12_goesBy_102 : decode cX12_goesBy 102 = .ok (.iconst 1, 1) := by decide +kernel
theorem dX12_goesBy_103 : decode cX12_goesBy 103 = .ok (.iadd, 1) := by decide +kernel
theorem dX12_goesBy_104 : decode cX12_goesBy 104 = .ok (.putfield 473, 3) := by decide +kernel
theorem dX12_goesBy_107 : decode cX12_goesBy 107 = .ok (.goto 36, 3) := by decide +kernel
theorem dX12_goesBy_110 : decode cX12_goesBy 110 = .ok (.aload_n 1, 1) := by decide +kernel
theorem dX12_goesBy_111 : decode cX12_goesBy 111 = .ok (.iconst 0, 1) := by decide +kernel
theorem dX12_goesBy_112 : decode cX12_goesBy 112 = .ok (.iload 4, 2) := by decide +kernel
theorem dX12_goesBy_114 : decode cX12_goesBy 114 = .ok (.iadd, 1) := by decide +kernel
theorem dX12_goesBy_115 : decode cX12_goesBy 115 = .ok (.iconst 1, 1) := by decide +kernel
theorem dX12_goesBy_116 : decode cX12_goesBy 116 = .ok (.iastore, 1) := by decide +kernel
theorem dX12_goesBy_117 : decode cX12_goesBy 117 = .ok (.aload_n 1, 1) := by decide +kernel
theorem dX12_goesBy_118 : decode cX12_goesBy 118 = .ok (.bipush 6, 2) := by decide +kernel
theorem dX12_goesBy_12 : decode cX12_goesBy 12 = .ok (.if_icmp .ge 137, 3) := by decide +kernel
theorem dX12_goesBy_120 : decode cX12_goesBy 120 = .ok (.iload 4, 2) := by decide +kernel
theorem dX12_goesBy_122 : decode cX12_goesBy 122 = .ok (.iadd, 1) := by decide +kernel
theorem dX12_goesBy_123 : decode cX12_goesBy 123 = .ok (.aload_n 1, 1) := by decide +kernel
theorem dX12_goesBy_124 : decode cX12_goesBy 124 = .ok (.bipush 23, 2) := by decide +kernel
theorem dX12_goesBy_126 : decode cX12_goesBy 126 = .ok (.iaload, 1) := by decide +kernel
theorem dX12_goesBy_127 : decode cX12_goesBy 127 = .ok (.iastore, 1) := by decide +kernel
theorem dX12_goesBy_128 : decode cX12_goesBy 128 = .ok (.aload_n 1, 1) := by decide +kernel
theorem dX12_goesBy_129 : decode cX12_goesBy 129 = .ok (.bipush 12, 2) := by decide +kernel
theorem dX12_goesBy_131 : decode cX12_goesBy 131 = .ok (.iload 4, 2) := by decide +kernel
theorem dX12_goesBy_133 : decode cX12_goesBy 133 = .ok (.iadd, 1) := by decide +kernel
theorem dX12_goesBy_134 : decode cX12_goesBy 134 = .ok (.iload_n 3, 1) := by decide +kernel
theorem dX12_goesBy_135 : decode cX12_goesBy 135 = .ok (.iastore, 1) := by decide +kernel
theorem dX12_goesBy_136 : decode cX12_goesBy 136 = .ok (.iload_n 2, 1) := by decide +kernel
theorem dX12_goesBy_137 : decode cX12_goesBy 137 = .ok (.iconst 1, 1) := by decide +kernel
theorem dX12_goesBy_138 : decode cX12_goesBy 138 = .ok (.iload 4, 2) := by decide +kernel
theorem dX12_goesBy_140 : decode cX12_goesBy 140 = .ok (.ishl, 1) := by decide +kernel
theorem dX12_goesBy_141 : decode cX12_goesBy 141 = .ok (.ior, 1) := by decide +kernel
theorem dX12_goesBy_142 : decode cX12_goesBy 142 = .ok (.istore_n 2, 1) := by decide +kernel
theorem dX12_goesBy_143 : decode cX12_goesBy 143 = .ok (.iinc 3 1, 3) := by decide +kernel
theorem dX12_goesBy_146 : decode cX12_goesBy 146 = .ok (.goto (-142), 3) := by decide +kernel
theorem dX12_goesBy_149 : decode cX12_goesBy 149 = .ok (.aload_n 1, 1) := by decide +kernel
theorem dX12_goesBy_15 : decode cX12_goesBy 15 = .ok (.aload_n 0, 1) := by decide +kernel
theorem dX12_goesBy_150 : decode cX12_goesBy 150 = .ok (.bipush 23, 2) := by decide +kernel
theorem dX12_goesBy_152 : decode cX12_goesBy 152 = .ok (.dup2, 1) := by decide +kernel
theorem dX12_goesBy_153 : decode cX12_goesBy 153 = .ok (.iaload, 1) := by decide +kernel
theorem dX12_goesBy_154 : decode cX12_goesBy 154 = .ok (.iconst 1, 1) := by decide +kernel
theorem dX12_goesBy_155 : decode cX12_goesBy 155 = .ok (.iadd, 1) := by decide +kernel
theorem dX12_goesBy_156 : decode cX12_goesBy 156 = .ok (.iastore, 1) := by decide +kernel
theorem dX12_goesBy_157 : decode cX12_goesBy 157 = .ok (.iload_n 2, 1) := by decide +kernel
theorem dX12_goesBy_158 : decode cX12_goesBy 158 = .ok (.ireturn, 1) := by decide +kernel
theorem dX12_goesBy_16 : decode cX12_goesBy 16 = .ok (.getfield 299, 3) := by decide +kernel
theorem dX12_goesBy_19 : decode cX12_goesBy 19 = .ok (.aload_n 1, 1) := by decide +kernel
theorem dX12_goesBy_2 : decode cX12_goesBy 2 = .ok (.iconst 0, 1) := by decide +kernel
theorem dX12_goesBy_20 : decode cX12_goesBy 20 = .ok (.bipush 23, 2) := by decide +kernel
theorem dX12_goesBy_22 : decode cX12_goesBy 22 = .ok (.iaload, 1) := by decide +kernel
theorem dX12_goesBy_23 : decode cX12_goesBy 23 = .ok (.invokevirtual 341, 3) := by decide +kernel
theorem dX12_goesBy_26 : decode cX12_goesBy 26 = .ok (.ifCond .ne 123, 3) := by decide +kernel
theorem dX12_goesBy_29 : decode cX12_goesBy 29 = .ok (.aload_n 1, 1) := by decide +kernel
theorem dX12_goesBy_3 : decode cX12_goesBy 3 = .ok (.istore_n 3, 1) := by decide +kernel
theorem dX12_goesBy_30 : decode cX12_goesBy 30 = .ok (.bipush 18, 2) := by decide +kernel
theorem dX12_goesBy_32 : decode cX12_goesBy 32 = .ok (.iload_n 3, 1) := by decide +kernel
theorem dX12_goesBy_33 : decode cX12_goesBy 33 = .ok (.iadd, 1) := by decide +kernel
theorem dX12_goesBy_34 : decode cX12_goesBy 34 = .ok (.iaload, 1) := by decide +kernel
theorem dX12_goesBy_35 : decode cX12_goesBy 35 = .ok (.bipush (-2), 2) := by decide +kernel
theorem dX12_goesBy_37 : decode cX12_goesBy 37 = .ok (.if_icmp .eq 106, 3) := by decide +kernel
theorem dX12_goesBy_4 : decode cX12_goesBy 4 = .ok (.iload_n 3, 1) := by decide +kernel
theorem dX12_goesBy_40 : decode cX12_goesBy 40 = .ok (.aload_n 0, 1) := by decide +kernel
theorem dX12_goesBy_41 : decode cX12_goesBy 41 = .ok (.aload_n 1, 1) := by decide +kernel
theorem dX12_goesBy_42 : decode cX12_goesBy 42 = .ok (.iload_n 3, 1) := by decide +kernel
theorem dX12_goesBy_43 : decode cX12_goesBy 43 = .ok (.invokevirtual 337, 3) := by decide +kernel
theorem dX12_goesBy_46 : decode cX12_goesBy 46 = .ok (.ifCond .eq 6, 3) := by decide +kernel
theorem dX12_goesBy_49 : decode cX12_goesBy 49 = .ok (.goto 94, 3) := by decide +kernel
theorem dX12_goesBy_5 : decode cX12_goesBy 5 = .ok (.aload_n 0, 1) := by decide +kernel
theorem dX12_goesBy_52 : decode cX12_goesBy 52 = .ok (.aload_n 0, 1) := by decide +kernel
theorem dX12_goesBy_53 : decode cX12_goesBy 53 = .ok (.aload_n 1, 1) := by decide +kernel
theorem dX12_goesBy_54 : decode cX12_goesBy 54 = .ok (.aload_n 1, 1) := by decide +kernel
theorem dX12_goesBy_55 : decode cX12_goesBy 55 = .ok (.bipush 18, 2) := by decide +kernel
theorem dX12_goesBy_57 : decode cX12_goesBy 57 = .ok (.iload_n 3, 1) := by decide +kernel
theorem dX12_goesBy_58 : decode cX12_goesBy 58 = .ok (.iadd, 1) := by decide +kernel
theorem dX12_goesBy_59 : decode cX12_goesBy 59 = .ok (.iaload, 1) := by decide +kernel
theorem dX12_goesBy_6 : decode cX12_goesBy 6 = .ok (.getfield 299, 3) := by decide +kernel
theorem dX12_goesBy_60 : decode cX12_goesBy 60 = .ok (.invokevirtual 469, 3) := by decide +kernel
theorem dX12_goesBy_63 : decode cX12_goesBy 63 = .ok (.istore 4, 2) := by decide +kernel
theorem dX12_goesBy_65 : decode cX12_goesBy 65 = .ok (.iload 4, 2) := by decide +kernel
theorem dX12_goesBy_67 : decode cX12_goesBy 67 = .ok (.bipush (-2), 2) := by decide +kernel
theorem dX12_goesBy_69 : decode cX12_goesBy 69 = .ok (.if_icmp .ne 6, 3) := by decide +kernel
theorem dX12_goesBy_72 : decode cX12_goesBy 72 = .ok (.goto 71, 3) := by decide +kernel
theorem dX12_goesBy_75 : decode cX12_goesBy 75 = .ok (.aload_n 1, 1) := by decide +kernel
theorem dX12_goesBy_76 : decode cX12_goesBy 76 = .ok (.bipush 18, 2) := by decide +kernel
theorem dX12_goesBy_78 : decode cX12_goesBy 78 = .ok (.iload_n 3, 1) := by decide +kernel
theorem dX12_goesBy_79 : decode cX12_goesBy 79 = .ok (.iadd, 1) := by decide +kernel
theorem dX12_goesBy_80 : decode cX12_goesBy 80 = .ok (.bipush (-2), 2) := by decide +kernel
theorem dX12_goesBy_82 : decode cX12_goesBy 82 = .ok (.iastore, 1) := by decide +kernel
theorem dX12_goesBy_83 : decode cX12_goesBy 83 = .ok (.aload_n 0, 1) := by decide +kernel
theorem dX12_goesBy_84 : decode cX12_goesBy 84 = .ok (.getfield 299, 3) := by decide +kernel
theorem dX12_goesBy_87 : decode cX12_goesBy 87 = .ok (.getfield 256, 3) := by decide +kernel
theorem dX12_goesBy_9 : decode cX12_goesBy 9 = .ok (.getfield 224, 3) := by decide +kernel
theorem dX12_goesBy_90 : decode cX12_goesBy 90 = .ok (.iload 4, 2) := by decide +kernel
theorem dX12_goesBy_92 : decode cX12_goesBy 92 = .ok (.iaload, 1) := by decide +kernel
theorem dX12_goesBy_93 : decode cX12_goesBy 93 = .ok (.iconst 2, 1) := by decide +kernel
theorem dX12_goesBy_94 : decode cX12_goesBy 94 = .ok (.if_icmp .ne 16, 3) := by decide +kernel
theorem dX12_goesBy_97 : decode cX12_goesBy 97 = .ok (.aload_n 0, 1) := by decide +kernel
theorem dX12_goesBy_98 : decode cX12_goesBy 98 = .ok (.dup, 1) := by decide +kernel
theorem dX12_goesBy_99 : decode cX12_goesBy 99 = .ok (.getfield 473, 3) := by decide +kernel
def vfX12_goesBy : List Cond := List.cons (.code yX12_goesBy cX12_goesBy 5 (some .int)) (apW [.fieldLink RX12 299 "HookPierModel" "pier" "LHookPierModel$Pier;", .methodLink RX12 341 yX11_isClose, .instanceMethod yX11_isClose, .selects RX11 yX11_isClose yX11_isClose, .initialized RX11, .methodLink RX12 337 yX12_isTangled, .instanceMethod yX12_isTangled, .selects RX12 yX12_isTangled yX12_isTangled, .initialized RX12, .methodLink RX12 469 yX12_taker, .instanceMethod yX12_taker, .selects RX12 yX12_taker yX12_taker, .fieldLink RX12 473 "HookPierModel" "crabsNow" "I"] (apW wsX120 (apW wsX110 (apW vfX11_isClose (apW vfX12_isTangled (vfX12_taker))))))
theorem ifX12_goesBy_X12 : ∀ w ∈ wsX120, w ∈ vfX12_goesBy := fun _ h => (List.mem_cons_of_mem _ (List.mem_append_right _ (List.mem_append_left _ h)))
theorem ifX12_goesBy_X11 : ∀ w ∈ wsX110, w ∈ vfX12_goesBy := fun _ h => (List.mem_cons_of_mem _ (List.mem_append_right _ (List.mem_append_right _ (List.mem_append_left _ h))))
theorem qfX12_goesBy : Good vfX12_goesBy := gd_cons (by decide +kernel) (gd_app (gd_dec (by decide +kernel) : Good [.fieldLink RX12 299 "HookPierModel" "pier" "LHookPierModel$Pier;", .methodLink RX12 341 yX11_isClose, .instanceMethod yX11_isClose, .selects RX11 yX11_isClose yX11_isClose, .initialized RX11, .methodLink RX12 337 yX12_isTangled, .instanceMethod yX12_isTangled, .selects RX12 yX12_isTangled yX12_isTangled, .initialized RX12, .methodLink RX12 469 yX12_taker, .instanceMethod yX12_taker, .selects RX12 yX12_taker yX12_taker, .fieldLink RX12 473 "HookPierModel" "crabsNow" "I"]) (gd_app qsX12 (gd_app qsX11 (gd_app qfX11_isClose (gd_app qfX12_isTangled qfX12_taker)))))
theorem gfX12_goesBy_0 : GoodIn vfX12_goesBy (wsV RX12 341 RX11 yX11_isClose vfX11_isClose) := goodIn_app (goodIn_r [.methodLink RX12 341 yX11_isClose, .instanceMethod yX11_isClose, .selects RX11 yX11_isClose yX11_isClose, .initialized RX11] [2, 3, 4, 5] rfl (by decide +kernel)) (goodIn_m (fun _ h => (List.mem_cons_of_mem _ (List.mem_append_right _ (List.mem_append_right _ (List.mem_append_right _ (List.mem_append_left _ h)))))) qfX11_isClose)
theorem gfX12_goesBy_1 : GoodIn vfX12_goesBy (wsV RX12 337 RX12 yX12_isTangled vfX12_isTangled) := goodIn_app (goodIn_r [.methodLink RX12 337 yX12_isTangled, .instanceMethod yX12_isTangled, .selects RX12 yX12_isTangled yX12_isTangled, .initialized RX12] [6, 7, 8, 9] rfl (by decide +kernel)) (goodIn_m (fun _ h => (List.mem_cons_of_mem _ (List.mem_append_right _ (List.mem_append_right _ (List.mem_append_right _ (List.mem_append_right _ (List.mem_append_left _ h))))))) qfX12_isTangled)
theorem gfX12_goesBy_2 : GoodIn vfX12_goesBy (wsV RX12 469 RX12 yX12_taker vfX12_taker) := goodIn_app (goodIn_r [.methodLink RX12 469 yX12_taker, .instanceMethod yX12_taker, .selects RX12 yX12_taker yX12_taker, .initialized RX12] [10, 11, 12, 9] rfl (by decide +kernel)) (goodIn_m (fun _ h => (List.mem_cons_of_mem _ (List.mem_append_right _ (List.mem_append_right _ (List.mem_append_right _ (List.mem_append_right _ (List.mem_append_right _ h))))))) qfX12_taker)
set_option maxHeartbeats 2000000 in
set_option maxRecDepth 100000 in
theorem kfX12_goesBy (l : Launch) (dC : Nat → ClassId) (dI : Nat → Nat → Nat) (a0 : Nat) (a1 : Nat) (a2 : Nat) (uq : Nat → Nat) (kq : Nat → ClassId) (m_v : TX12_v) (m_c : TX12_c) (g7 : Value) (g8 : Value) (g9 : Value) (g10 : Value) (g11 : Value) (g12 : Value) (g13 : Value) (g14 : Value) (g15 : Value) (g16 : Value) (g17 : Value) (g18 : Value) (g19 : Value) (g20 : Value) (g21 : Value) (g22 : Value) (g23 : Value) (g24 : Value) (g25 : Value) (g26 : Value) (g27 : Value) (g28 : Value) (g29 : Value) (g30 : Value) (g31 : Value) (q_q : TX11_q) (cB33 : ClassId) (sz : Nat) (out : (Int32 × TX12_v × TX12_c)) (h : f_X12_goesBy m_v m_c q_q = some out) : Met l yX12_goesBy vfX12_goesBy ({ frames := 5, cells := 0, slots := 0, locals := 116 }) (PC (dC, dI) [.ref a0, .ref a1] sz ((a0, .inr (9, [g7, g8, g9, .ref a2, g10, g11, g12, g13, g14, g15, g16, g17, g18, g19, g20, .ref a1, g21, g22, g23, g24, g25, g26, g27, g28, g29, g30, g31, .int m_c.1, .int m_c.2.1, .int m_c.2.2])) :: bX11 a2 uq kq q_q ([(a1, .inl (cB33, 26, .inl m_v))])) (tX11 kq ((cB33, .int) :: []))) (va_Qi (S := Unit) (fun (r : Int32) _ => r = out.1) (fun _ t => BC (dC, dI) (va_A ((a0, .inr (9, [g7, g8, g9, .ref a2, g10, g11, g12, g13, g14, g15, g16, g17, g18, g19, g20, .ref a1, g21, g22, g23, g24, g25, g26, g27, g28, g29, g30, g31, .int m_c.1, .int m_c.2.1, .int m_c.2.2])) :: bX11 a2 uq kq q_q ([(a1, .inl (cB33, 26, .inl m_v))])) sz) ((a0, .inr (9, [g7, g8, g9, .ref a2, g10, g11, g12, g13, g14, g15, g16, g17, g18, g19, g20, .ref a1, g21, g22, g23, g24, g25, g26, g27, g28, g29, g30, g31, .int out.2.2.1, .int out.2.2.2.1, .int out.2.2.2.2])) :: bX11 a2 uq kq q_q ([(a1, .inl (cB33, 26, .inl out.2.1))])) [] t) (va_A ((a0, .inr (9, [g7, g8, g9, .ref a2, g10, g11, g12, g13, g14, g15, g16, g17, g18, g19, g20, .ref a1, g21, g22, g23, g24, g25, g26, g27, g28, g29, g30, g31, .int m_c.1, .int m_c.2.1, .int m_c.2.2])) :: bX11 a2 uq kq q_q ([(a1, .inl (cB33, 26, .inl m_v))])) sz)) 0 0 (va_A ((a0, .inr (9, [g7, g8, g9, .ref a2, g10, g11, g12, g13, g14, g15, g16, g17, g18, g19, g20, .ref a1, g21, g22, g23, g24, g25, g26, g27, g28, g29, g30, g31, .int m_c.1, .int m_c.2.1, .int m_c.2.2])) :: bX11 a2 uq kq q_q ([(a1, .inl (cB33, 26, .inl m_v))])) sz) := by
  refine Met.ofW (cc := cX12_goesBy) (maxL := 5) (ret := (some .int)) (by decide) rfl ?_
  intro p e s m args below meth c s₁ B0 hml hv
  obtain ⟨rfl, hsz, hP, hK, hD0, hN⟩ := hv
  have hx := B0.exec
  have hb := B0.bytes
  have hr := B0.returns
  have hts := atoms_spec (ws := vfX12_goesBy) B0.pre
  have hown : s.vm.findClass RX12 = some m.cls := findClass_of_methodNamed B0.named
  have hlocks := B0.notSynchronized
  subst hsz
  have hD := hD0.self (sz := s.heap.size)
  generalize hAe : va_A ((a0, .inr (9, [g7, g8, g9, .ref a2, g10, g11, g12, g13, g14, g15, g16, g17, g18, g19, g20, .ref a1, g21, g22, g23, g24, g25, g26, g27, g28, g29, g30, g31, .int m_c.1, .int m_c.2.1, .int m_c.2.2])) :: bX11 a2 uq kq q_q ([(a1, .inl (cB33, 26, .inl m_v))])) s.heap.size = A at hD ⊢
  have hA : ∀ q : Nat, s.heap.size ≤ q → A q := fun q h => by rw [← hAe]; exact Or.inr h
  have hS : va_S A s.heap s.heap [] := va_S.rf
  have hP : va_P (dC, dI) vwCl ((a0, .inr (9, [g7, g8, g9, .ref a2, g10, g11, g12, g13, g14, g15, g16, g17, g18, g19, g20, .ref a1, g21, g22, g23, g24, g25, g26, g27, g28, g29, g30, g31, .int m_c.1, .int m_c.2.1, .int m_c.2.2])) :: bX11 a2 uq kq q_q ([(a1, .inl (cB33, 26, .inl m_v))])) s.heap := hP
  have hl := lv_entry ([.ref a0, .ref a1]) (n := 5) (Nat.le_of_ble_eq_true rfl)
  rw [lg_entry_eq]
  generalize (lg_sl ([.ref a0, .ref a1]) ++ List.replicate (5 - (lg_sl ([.ref a0, .ref a1])).length) Slot.unset).toArray = ls at hl ⊢
  have hl : lv_has ls 5 [(0, .ref a0), (1, .ref a1)] := hl
  refine W_q (fun QQ hQQ => ?_)
  rw [f_X12_goesBy] at h
  refine lv_iconst (v := 0) hx hb dX12_goesBy_0 (by decide) ?_
  refine lv_istore_n (lv' := [(2, .int 0), (0, .ref a0), (1, .ref a1)]) hx hb dX12_goesBy_1 rfl hl (by decide) rfl (fun ls hl => ?_)
  refine lv_iconst (v := 0) hx hb dX12_goesBy_2 (by decide) ?_
  refine lv_istore_n (lv' := [(3, .int 0), (2, .int 0), (0, .ref a0), (1, .ref a1)]) hx hb dX12_goesBy_3 rfl hl (by decide) rfl (fun ls hl => ?_)
  have L4 : ∀ (n4 : Nat) (v4_l3 : Int32) (v4_l2 : Int32) (v4_m_v : TX12_v) (v4_m_c : TX12_c) (H : Heap) (locs : List Loc) (ls : Array Slot), f_X12_goesBy_L4 q_q n4 v4_l3 v4_l2 v4_m_v v4_m_c = some out → va_P (dC, dI) vwCl ((a0, .inr (9, [g7, g8, g9, .ref a2, g10, g11, g12, g13, g14, g15, g16, g17, g18, g19, g20, .ref a1, g21, g22, g23, g24, g25, g26, g27, g28, g29, g30, g31, .int v4_m_c.1, .int v4_m_c.2.1, .int v4_m_c.2.2])) :: bX11 a2 uq kq q_q ([(a1, .inl (cB33, 26, .inl v4_m_v))])) H → va_D A ((a0, .inr (9, [g7, g8, g9, .ref a2, g10, g11, g12, g13, g14, g15, g16, g17, g18, g19, g20, .ref a1, g21, g22, g23, g24, g25, g26, g27, g28, g29, g30, g31, .int v4_m_c.1, .int v4_m_c.2.1, .int v4_m_c.2.2])) :: bX11 a2 uq kq q_q ([(a1, .inl (cB33, 26, .inl v4_m_v))])) → va_S A s.heap H locs → lv_has ls 5 [(3, .int v4_l3), (2, .int v4_l2), (0, .ref a0), (1, .ref a1)] → W p l e (headSpec vfX12_goesBy { frames := 5, cells := 0, slots := 0, locals := 116 }).room s m ([.ref a0, .ref a1]).toArray below meth c H locs 0 0 QQ (F0 m 4 ls []) := by
    intro n4
    induction n4 with
    | zero =>
      intro v4_l3 v4_l2 v4_m_v v4_m_c H locs ls h  _ _ _ _
      rw [f_X12_goesBy_L4] at h
      cases h
    | succ n4 ih4 =>
      intro v4_l3 v4_l2 v4_m_v v4_m_c H locs ls h  hP hD hS hl
      rw [f_X12_goesBy_L4] at h
      refine lv_iload_n hx hb dX12_goesBy_4 rfl (lv_at hl 0 rfl) ?_
      refine lv_aload_n hx hb dX12_goesBy_5 rfl (lv_at hl 2 rfl) ?_
      refine va_get (D := (dC, dI)) (ci := 9) (v := .ref a2) (C := RX12) (T := TX12) (N := 30) hx hb hts ifX12_goesBy_X12 hown hK hP 0 rfl rfl 3 (by decide) (hts (.fieldLink RX12 299 "HookPierModel" "pier" "LHookPierModel$Pier;") (List.mem_of_getElem? (i := 1) rfl)) (fun _ h9 => h9) rfl dX12_goesBy_6 ?_
      refine va_getN (D := (dC, dI)) (ci := 8) (v := .int q_q.2.2.2.2.2.1) (C := RX11) (T := TX11) (N := 24) hx hb hts ifX12_goesBy_X11 hown hK hP 1 rfl rfl 5 (by decide) (va_Nw.use rfl (hN.1 (.fieldLinkNest RX12 224 "HookPierModel$Pier" "askers" "I" "HookPierModel") (List.mem_of_getElem? (i := 27) rfl))) (fun _ h9 => h9) rfl dX12_goesBy_9 ?_
      have J149 : ∀ (H : Heap) (locs : List Loc) (ls : Array Slot), f_X12_goesBy_J149 v4_l2 v4_m_c v4_m_v = some out → va_P (dC, dI) vwCl ((a0, .inr (9, [g7, g8, g9, .ref a2, g10, g11, g12, g13, g14, g15, g16, g17, g18, g19, g20, .ref a1, g21, g22, g23, g24, g25, g26, g27, g28, g29, g30, g31, .int v4_m_c.1, .int v4_m_c.2.1, .int v4_m_c.2.2])) :: bX11 a2 uq kq q_q ([(a1, .inl (cB33, 26, .inl v4_m_v))])) H → va_D A ((a0, .inr (9, [g7, g8, g9, .ref a2, g10, g11, g12, g13, g14, g15, g16, g17, g18, g19, g20, .ref a1, g21, g22, g23, g24, g25, g26, g27, g28, g29, g30, g31, .int v4_m_c.1, .int v4_m_c.2.1, .int v4_m_c.2.2])) :: bX11 a2 uq kq q_q ([(a1, .inl (cB33, 26, .inl v4_m_v))])) → va_S A s.heap H locs → lv_has ls 5 [(2, .int v4_l2), (1, .ref a1)] → W p l e (headSpec vfX12_goesBy { frames := 5, cells := 0, slots := 0, locals := 116 }).room s m ([.ref a0, .ref a1]).toArray below meth c H locs 0 0 QQ (F0 m 149 ls []) := by
        intro  H locs ls h  hP hD hS hl
        rw [f_X12_goesBy_J149] at h
        refine lv_aload_n hx hb dX12_goesBy_149 rfl (lv_at hl 1 rfl) ?_
        refine lv_bipush (v := 23) hx hb dX12_goesBy_150 (by decide) ?_
        refine lv_dup2_11 hx hb dX12_goesBy_152 rfl rfl ?_
        refine va_iald hx hb hK hP 16 14 rfl rfl (by unfold vp_in; decide) dX12_goesBy_153 ?_
        refine lv_iconst (v := 1) hx hb dX12_goesBy_154 (by decide) ?_
        refine lv_iadd hx hb dX12_goesBy_155 ?_
        refine va_iast hx hb hK hP hD hS 16 14 rfl rfl (by unfold vp_in; decide) dX12_goesBy_156 (fun H locs hP hD hS => ?_)
        have hP : va_P (dC, dI) vwCl ((a0, .inr (9, [g7, g8, g9, .ref a2, g10, g11, g12, g13, g14, g15, g16, g17, g18, g19, g20, .ref a1, g21, g22, g23, g24, g25, g26, g27, g28, g29, g30, g31, .int v4_m_c.1, .int v4_m_c.2.1, .int v4_m_c.2.2])) :: bX11 a2 uq kq q_q ([(a1, .inl (cB33, 26, .inl (upd v4_m_v ((23 : Int32)).toNatClampNeg ((v4_m_v ((23 : Int32)).toNatClampNeg) + (1 : Int32)))))])) H := hP
        have hD : va_D A ((a0, .inr (9, [g7, g8, g9, .ref a2, g10, g11, g12, g13, g14, g15, g16, g17, g18, g19, g20, .ref a1, g21, g22, g23, g24, g25, g26, g27, g28, g29, g30, g31, .int v4_m_c.1, .int v4_m_c.2.1, .int v4_m_c.2.2])) :: bX11 a2 uq kq q_q ([(a1, .inl (cB33, 26, .inl (upd v4_m_v ((23 : Int32)).toNatClampNeg ((v4_m_v ((23 : Int32)).toNatClampNeg) + (1 : Int32)))))])) := hD
        refine lv_iload_n hx hb dX12_goesBy_157 rfl (lv_at hl 0 rfl) ?_
        obtain rfl := Option.some.inj h
        have hP9 := hP.sub (ws' := ((a0, .inr (9, [g7, g8, g9, .ref a2, g10, g11, g12, g13, g14, g15, g16, g17, g18, g19, g20, .ref a1, g21, g22, g23, g24, g25, g26, g27, g28, g29, g30, g31, .int v4_m_c.1, .int v4_m_c.2.1, .int v4_m_c.2.2])) :: bX11 a2 uq kq q_q ([(a1, .inl (cB33, 26, .inl (upd v4_m_v ((23 : Int32)).toNatClampNeg ((v4_m_v ((23 : Int32)).toNatClampNeg) + (1 : Int32)))))]))) [0, 1, 2, 3, 4, 5, 6, 7, 8, 9, 10, 11, 12, 13, 14, 15, 16] rfl
        have hD9 := hD.sub (ws' := ((a0, .inr (9, [g7, g8, g9, .ref a2, g10, g11, g12, g13, g14, g15, g16, g17, g18, g19, g20, .ref a1, g21, g22, g23, g24, g25, g26, g27, g28, g29, g30, g31, .int v4_m_c.1, .int v4_m_c.2.1, .int v4_m_c.2.2])) :: bX11 a2 uq kq q_q ([(a1, .inl (cB33, 26, .inl (upd v4_m_v ((23 : Int32)).toNatClampNeg ((v4_m_v ((23 : Int32)).toNatClampNeg) + (1 : Int32)))))]))) [0, 1, 2, 3, 4, 5, 6, 7, 8, 9, 10, 11, 12, 13, 14, 15, 16] (by decide) rfl
        have hK9 := hK.sub (tys' := []) [] rfl
        rw [hQQ]
        exact W.iret (v := v4_l2) hx hb hr (fun t ht hW => ⟨⟨v4_l2, (), rfl, rfl, by rw [ht]; exact hP9, va_K.moved hW.alike hK9, hD9⟩, hS.F ht⟩) hS.2.2 dX12_goesBy_158
      refine lv_icmp_ge (tgt := 149) hx hb dX12_goesBy_12 (by decide) (fun c12 => ?_) (fun c12 => ?_)
      · have h := (if_pos c12).symm.trans h
        exact J149  H _ ls h  hP hD hS (lv_sub hl [1, 3] rfl)
      · have h := (if_neg c12).symm.trans h
        refine lv_aload_n hx hb dX12_goesBy_15 rfl (lv_at hl 2 rfl) ?_
        refine va_get (D := (dC, dI)) (ci := 9) (v := .ref a2) (C := RX12) (T := TX12) (N := 30) hx hb hts ifX12_goesBy_X12 hown hK hP 0 rfl rfl 3 (by decide) (hts (.fieldLink RX12 299 "HookPierModel" "pier" "LHookPierModel$Pier;") (List.mem_of_getElem? (i := 1) rfl)) (fun _ h9 => h9) rfl dX12_goesBy_16 ?_
        refine lv_aload_n hx hb dX12_goesBy_19 rfl (lv_at hl 3 rfl) ?_
        refine lv_bipush (v := 23) hx hb dX12_goesBy_20 (by decide) ?_
        refine va_iald hx hb hK hP 16 14 rfl rfl (by unfold vp_in; decide) dX12_goesBy_22 ?_
        obtain ⟨o23, eo23⟩ : ∃ o, o = f_X11_isClose (v4_m_v ((23 : Int32)).toNatClampNeg) q_q := ⟨_, rfl⟩
        have h := nm_of h o23 eo23
        refine cl_i (wc := (bX11 a2 uq kq q_q [])) (wr := ([(a0, .inr (9, [g7, g8, g9, .ref a2, g10, g11, g12, g13, g14, g15, g16, g17, g18, g19, g20, .ref a1, g21, g22, g23, g24, g25, g26, g27, g28, g29, g30, g31, .int v4_m_c.1, .int v4_m_c.2.1, .int v4_m_c.2.2])), (a1, .inl (cB33, 26, .inl v4_m_v))])) (va_runV (As := [.int (v4_m_v ((23 : Int32)).toNatClampNeg)]) (rest := []) ⟨hx, hb, hml, hown, hts⟩ (kfX11_isClose l dC dI a2 (v4_m_v ((23 : Int32)).toNatClampNeg) uq kq q_q H.size o23 eo23.symm) (cwV 1 hts gfX12_goesBy_0 rfl rfl rfl (by decide +kernel) ⟨(Nat.le_of_ble_eq_true rfl), (Nat.le_of_ble_eq_true rfl)⟩) (PV (hP.sub (ws' := (bX11 a2 uq kq q_q [])) [1, 2, 3, 4, 5, 6, 7, 8, 9, 10, 11, 12, 13, 14, 15] rfl) (hK.sub (tys' := (tX11 kq ([]))) [0, 1, 2, 3, 4, 5, 6, 7, 8, 9, 10, 11, 12, 13] rfl) (hD.sub (ws' := (bX11 a2 uq kq q_q [])) [1, 2, 3, 4, 5, 6, 7, 8, 9, 10, 11, 12, 13, 14, 15] (by decide) rfl) hN 0 rfl rfl) rfl rfl hl.1 rfl (lv_room (Nat.le_of_ble_eq_true rfl)) dX12_goesBy_23 ⟨(Nat.le_of_ble_eq_true rfl), (Nat.le_of_ble_eq_true rfl)⟩) hP hD hK hS hA [1, 2, 3, 4, 5, 6, 7, 8, 9, 10, 11, 12, 13, 14, 15] [0, 16] rfl rfl (by decide) (by decide) (fun r23 _ H locs hw hP hD _ hS => ?_)
        obtain ⟨hw, br23⟩ := hw
        obtain rfl := hw.symm
        have hP : va_P (dC, dI) vwCl ((a0, .inr (9, [g7, g8, g9, .ref a2, g10, g11, g12, g13, g14, g15, g16, g17, g18, g19, g20, .ref a1, g21, g22, g23, g24, g25, g26, g27, g28, g29, g30, g31, .int v4_m_c.1, .int v4_m_c.2.1, .int v4_m_c.2.2])) :: (a1, .inl (cB33, 26, .inl v4_m_v)) :: bX11 a2 uq kq q_q []) H := hP
        have hD : va_D A ((a0, .inr (9, [g7, g8, g9, .ref a2, g10, g11, g12, g13, g14, g15, g16, g17, g18, g19, g20, .ref a1, g21, g22, g23, g24, g25, g26, g27, g28, g29, g30, g31, .int v4_m_c.1, .int v4_m_c.2.1, .int v4_m_c.2.2])) :: (a1, .inl (cB33, 26, .inl v4_m_v)) :: bX11 a2 uq kq q_q []) := hD
        refine lv_if_ne (tgt := 149) hx hb dX12_goesBy_26 (by decide) (fun c26 => ?_) (fun c26 => ?_)
        · have h := (if_neg c26).symm.trans h
          exact J149  H _ ls h  (hP.sub (ws' := ((a0, .inr (9, [g7, g8, g9, .ref a2, g10, g11, g12, g13, g14, g15, g16, g17, g18, g19, g20, .ref a1, g21, g22, g23, g24, g25, g26, g27, g28, g29, g30, g31, .int v4_m_c.1, .int v4_m_c.2.1, .int v4_m_c.2.2])) :: bX11 a2 uq kq q_q ([(a1, .inl (cB33, 26, .inl v4_m_v))]))) [0, 2, 3, 4, 5, 6, 7, 8, 9, 10, 11, 12, 13, 14, 15, 16, 1] rfl) (hD.sub (ws' := ((a0, .inr (9, [g7, g8, g9, .ref a2, g10, g11, g12, g13, g14, g15, g16, g17, g18, g19, g20, .ref a1, g21, g22, g23, g24, g25, g26, g27, g28, g29, g30, g31, .int v4_m_c.1, .int v4_m_c.2.1, .int v4_m_c.2.2])) :: bX11 a2 uq kq q_q ([(a1, .inl (cB33, 26, .inl v4_m_v))]))) [0, 2, 3, 4, 5, 6, 7, 8, 9, 10, 11, 12, 13, 14, 15, 16, 1] (by decide) rfl) hS (lv_sub hl [1, 3] rfl)
        · have h := (if_pos c26).symm.trans h
          refine lv_aload_n hx hb dX12_goesBy_29 rfl (lv_at hl 3 rfl) ?_
          refine lv_bipush (v := 18) hx hb dX12_goesBy_30 (by decide) ?_
          refine lv_iload_n hx hb dX12_goesBy_32 rfl (lv_at hl 0 rfl) ?_
          refine lv_iadd hx hb dX12_goesBy_33 ?_
          obtain ⟨hg34, h⟩ := gA_of h
          refine va_iald hx hb hK hP 1 14 rfl rfl hg34 dX12_goesBy_34 ?_
          refine lv_bipush (v := (-2)) hx hb dX12_goesBy_35 (by decide) ?_
          have J143 : ∀ (v143_l2 : Int32) (v143_m_v : TX12_v) (v143_m_c : TX12_c) (H : Heap) (locs : List Loc) (ls : Array Slot), f_X12_goesBy_J143 (f_X12_goesBy_L4 q_q n4) v4_l3 v143_l2 v143_m_v v143_m_c = some out → va_P (dC, dI) vwCl ((a0, .inr (9, [g7, g8, g9, .ref a2, g10, g11, g12, g13, g14, g15, g16, g17, g18, g19, g20, .ref a1, g21, g22, g23, g24, g25, g26, g27, g28, g29, g30, g31, .int v143_m_c.1, .int v143_m_c.2.1, .int v143_m_c.2.2])) :: (a1, .inl (cB33, 26, .inl v143_m_v)) :: bX11 a2 uq kq q_q []) H → va_D A ((a0, .inr (9, [g7, g8, g9, .ref a2, g10, g11, g12, g13, g14, g15, g16, g17, g18, g19, g20, .ref a1, g21, g22, g23, g24, g25, g26, g27, g28, g29, g30, g31, .int v143_m_c.1, .int v143_m_c.2.1, .int v143_m_c.2.2])) :: (a1, .inl (cB33, 26, .inl v143_m_v)) :: bX11 a2 uq kq q_q []) → va_S A s.heap H locs → lv_has ls 5 [(3, .int v4_l3), (2, .int v143_l2), (0, .ref a0), (1, .ref a1)] → W p l e (headSpec vfX12_goesBy { frames := 5, cells := 0, slots := 0, locals := 116 }).room s m ([.ref a0, .ref a1]).toArray below meth c H locs 0 0 QQ (F0 m 143 ls []) := by
            intro v143_l2 v143_m_v v143_m_c H locs ls h  hP hD hS hl
            rw [f_X12_goesBy_J143] at h
            refine lv_iinc (v := (v4_l3 + (1 : Int32))) (lv' := [(3, .int (v4_l3 + (1 : Int32))), (2, .int v143_l2), (0, .ref a0), (1, .ref a1)]) hx hb dX12_goesBy_143 hl (k := 0) rfl rfl (by decide) rfl (fun ls hl => ?_)
            refine lv_goto (tgt := 4) hx hb dX12_goesBy_146 (by decide) ?_
            exact ih4 (v4_l3 + (1 : Int32)) v143_l2 v143_m_v v143_m_c H _ ls h  (hP.sub (ws' := ((a0, .inr (9, [g7, g8, g9, .ref a2, g10, g11, g12, g13, g14, g15, g16, g17, g18, g19, g20, .ref a1, g21, g22, g23, g24, g25, g26, g27, g28, g29, g30, g31, .int v143_m_c.1, .int v143_m_c.2.1, .int v143_m_c.2.2])) :: bX11 a2 uq kq q_q ([(a1, .inl (cB33, 26, .inl v143_m_v))]))) [0, 2, 3, 4, 5, 6, 7, 8, 9, 10, 11, 12, 13, 14, 15, 16, 1] rfl) (hD.sub (ws' := ((a0, .inr (9, [g7, g8, g9, .ref a2, g10, g11, g12, g13, g14, g15, g16, g17, g18, g19, g20, .ref a1, g21, g22, g23, g24, g25, g26, g27, g28, g29, g30, g31, .int v143_m_c.1, .int v143_m_c.2.1, .int v143_m_c.2.2])) :: bX11 a2 uq kq q_q ([(a1, .inl (cB33, 26, .inl v143_m_v))]))) [0, 2, 3, 4, 5, 6, 7, 8, 9, 10, 11, 12, 13, 14, 15, 16, 1] (by decide) rfl) hS (lv_sub hl [0, 1, 2, 3] rfl)
          refine lv_icmp_eq (tgt := 143) hx hb dX12_goesBy_37 (by decide) (fun c37 => ?_) (fun c37 => ?_)
          · have h := (if_pos c37).symm.trans h
            exact J143 v4_l2 v4_m_v v4_m_c H _ ls h  hP hD hS (lv_sub hl [0, 1, 2, 3] rfl)
          · have h := (if_neg c37).symm.trans h
            refine lv_aload_n hx hb dX12_goesBy_40 rfl (lv_at hl 2 rfl) ?_
            refine lv_aload_n hx hb dX12_goesBy_41 rfl (lv_at hl 3 rfl) ?_
            refine lv_iload_n hx hb dX12_goesBy_42 rfl (lv_at hl 0 rfl) ?_
            obtain ⟨o43, eo43, h⟩ := bd_of h
            refine cl_i (wc := ((a0, .inr (9, [g7, g8, g9, .ref a2, g10, g11, g12, g13, g14, g15, g16, g17, g18, g19, g20, .ref a1, g21, g22, g23, g24, g25, g26, g27, g28, g29, g30, g31, .int v4_m_c.1, .int v4_m_c.2.1, .int v4_m_c.2.2])) :: bX11 a2 uq kq q_q ([(a1, .inl (cB33, 26, .inl v4_m_v))]))) (wr := []) (va_runV (As := [.ref a1, .int v4_l3]) (rest := []) ⟨hx, hb, hml, hown, hts⟩ (kfX12_isTangled l dC dI a0 a1 v4_l3 a2 uq kq v4_m_v (g7) (g8) (g9) (g10) (g11) (g12) (g13) (g14) (g15) (g16) (g17) (g18) (g19) (g20) (g21) (g22) (g23) (g24) (g25) (g26) (g27) (g28) (g29) (g30) (g31) (.int v4_m_c.1) (.int v4_m_c.2.1) (.int v4_m_c.2.2) q_q cB33 H.size o43 eo43) (cwV 2 hts gfX12_goesBy_1 rfl rfl rfl (by decide +kernel) ⟨(Nat.le_of_ble_eq_true rfl), (Nat.le_of_ble_eq_true rfl)⟩) (PV (hP.sub (ws' := ((a0, .inr (9, [g7, g8, g9, .ref a2, g10, g11, g12, g13, g14, g15, g16, g17, g18, g19, g20, .ref a1, g21, g22, g23, g24, g25, g26, g27, g28, g29, g30, g31, .int v4_m_c.1, .int v4_m_c.2.1, .int v4_m_c.2.2])) :: bX11 a2 uq kq q_q ([(a1, .inl (cB33, 26, .inl v4_m_v))]))) [0, 2, 3, 4, 5, 6, 7, 8, 9, 10, 11, 12, 13, 14, 15, 16, 1] rfl) (hK.sub (tys' := (tX11 kq ((cB33, .int) :: []))) [0, 1, 2, 3, 4, 5, 6, 7, 8, 9, 10, 11, 12, 13, 14] rfl) (hD.sub (ws' := ((a0, .inr (9, [g7, g8, g9, .ref a2, g10, g11, g12, g13, g14, g15, g16, g17, g18, g19, g20, .ref a1, g21, g22, g23, g24, g25, g26, g27, g28, g29, g30, g31, .int v4_m_c.1, .int v4_m_c.2.1, .int v4_m_c.2.2])) :: bX11 a2 uq kq q_q ([(a1, .inl (cB33, 26, .inl v4_m_v))]))) [0, 2, 3, 4, 5, 6, 7, 8, 9, 10, 11, 12, 13, 14, 15, 16, 1] (by decide) rfl) hN 0 rfl rfl) rfl rfl hl.1 rfl (lv_room (Nat.le_of_ble_eq_true rfl)) dX12_goesBy_43 ⟨(Nat.le_of_ble_eq_true rfl), (Nat.le_of_ble_eq_true rfl)⟩) hP hD hK hS hA [0, 2, 3, 4, 5, 6, 7, 8, 9, 10, 11, 12, 13, 14, 15, 16, 1] [] rfl rfl (by decide) (by decide) (fun r43 _ H locs hw hP hD _ hS => ?_)
            obtain ⟨hw, br43⟩ := hw
            obtain rfl := hw.symm
            have hP : va_P (dC, dI) vwCl ((a0, .inr (9, [g7, g8, g9, .ref a2, g10, g11, g12, g13, g14, g15, g16, g17, g18, g19, g20, .ref a1, g21, g22, g23, g24, g25, g26, g27, g28, g29, g30, g31, .int v4_m_c.1, .int v4_m_c.2.1, .int v4_m_c.2.2])) :: bX11 a2 uq kq q_q ([(a1, .inl (cB33, 26, .inl v4_m_v))])) H := hP
            have hD : va_D A ((a0, .inr (9, [g7, g8, g9, .ref a2, g10, g11, g12, g13, g14, g15, g16, g17, g18, g19, g20, .ref a1, g21, g22, g23, g24, g25, g26, g27, g28, g29, g30, g31, .int v4_m_c.1, .int v4_m_c.2.1, .int v4_m_c.2.2])) :: bX11 a2 uq kq q_q ([(a1, .inl (cB33, 26, .inl v4_m_v))])) := hD
            refine lv_if_eq (tgt := 52) hx hb dX12_goesBy_46 (by decide) (fun c46 => ?_) (fun c46 => ?_)
            · have h := (if_pos c46).symm.trans h
              refine lv_aload_n hx hb dX12_goesBy_52 rfl (lv_at hl 2 rfl) ?_
              refine lv_aload_n hx hb dX12_goesBy_53 rfl (lv_at hl 3 rfl) ?_
              refine lv_aload_n hx hb dX12_goesBy_54 rfl (lv_at hl 3 rfl) ?_
              refine lv_bipush (v := 18) hx hb dX12_goesBy_55 (by decide) ?_
              refine lv_iload_n hx hb dX12_goesBy_57 rfl (lv_at hl 0 rfl) ?_
              refine lv_iadd hx hb dX12_goesBy_58 ?_
              obtain ⟨hg59, h⟩ := gA_of h
              refine va_iald hx hb hK hP 16 14 rfl rfl hg59 dX12_goesBy_59 ?_
              obtain ⟨o60, eo60, h⟩ := bd_of h
              refine cl_i (wc := ((a0, .inr (9, [g7, g8, g9, .ref a2, g10, g11, g12, g13, g14, g15, g16, g17, g18, g19, g20, .ref a1, g21, g22, g23, g24, g25, g26, g27, g28, g29, g30, g31, .int v4_m_c.1, .int v4_m_c.2.1, .int v4_m_c.2.2])) :: bX11 a2 uq kq q_q ([(a1, .inl (cB33, 26, .inl v4_m_v))]))) (wr := []) (va_runV (As := [.ref a1, .int (v4_m_v (((18 : Int32) + v4_l3)).toNatClampNeg)]) (rest := []) ⟨hx, hb, hml, hown, hts⟩ (kfX12_taker l dC dI a0 a1 (v4_m_v (((18 : Int32) + v4_l3)).toNatClampNeg) a2 uq kq v4_m_v (g7) (g8) (g9) (g10) (g11) (g12) (g13) (g14) (g15) (g16) (g17) (g18) (g19) (g20) (g21) (g22) (g23) (g24) (g25) (g26) (g27) (g28) (g29) (g30) (g31) (.int v4_m_c.1) (.int v4_m_c.2.1) (.int v4_m_c.2.2) q_q cB33 H.size o60 eo60) (cwV 2 hts gfX12_goesBy_2 rfl rfl rfl (by decide +kernel) ⟨(Nat.le_of_ble_eq_true rfl), (Nat.le_of_ble_eq_true rfl)⟩) (PV (hP.sub (ws' := ((a0, .inr (9, [g7, g8, g9, .ref a2, g10, g11, g12, g13, g14, g15, g16, g17, g18, g19, g20, .ref a1, g21, g22, g23, g24, g25, g26, g27, g28, g29, g30, g31, .int v4_m_c.1, .int v4_m_c.2.1, .int v4_m_c.2.2])) :: bX11 a2 uq kq q_q ([(a1, .inl (cB33, 26, .inl v4_m_v))]))) [0, 1, 2, 3, 4, 5, 6, 7, 8, 9, 10, 11, 12, 13, 14, 15, 16] rfl) (hK.sub (tys' := (tX11 kq ((cB33, .int) :: []))) [0, 1, 2, 3, 4, 5, 6, 7, 8, 9, 10, 11, 12, 13, 14] rfl) (hD.sub (ws' := ((a0, .inr (9, [g7, g8, g9, .ref a2, g10, g11, g12, g13, g14, g15, g16, g17, g18, g19, g20, .ref a1, g21, g22, g23, g24, g25, g26, g27, g28, g29, g30, g31, .int v4_m_c.1, .int v4_m_c.2.1, .int v4_m_c.2.2])) :: bX11 a2 uq kq q_q ([(a1, .inl (cB33, 26, .inl v4_m_v))]))) [0, 1, 2, 3, 4, 5, 6, 7, 8, 9, 10, 11, 12, 13, 14, 15, 16] (by decide) rfl) hN 0 rfl rfl) rfl rfl hl.1 rfl (lv_room (Nat.le_of_ble_eq_true rfl)) dX12_goesBy_60 ⟨(Nat.le_of_ble_eq_true rfl), (Nat.le_of_ble_eq_true rfl)⟩) hP hD hK hS hA [0, 1, 2, 3, 4, 5, 6, 7, 8, 9, 10, 11, 12, 13, 14, 15, 16] [] rfl rfl (by decide) (by decide) (fun r60 _ H locs hw hP hD _ hS => ?_)
              obtain rfl := hw
              have hP : va_P (dC, dI) vwCl ((a0, .inr (9, [g7, g8, g9, .ref a2, g10, g11, g12, g13, g14, g15, g16, g17, g18, g19, g20, .ref a1, g21, g22, g23, g24, g25, g26, g27, g28, g29, g30, g31, .int v4_m_c.1, .int v4_m_c.2.1, .int v4_m_c.2.2])) :: bX11 a2 uq kq q_q ([(a1, .inl (cB33, 26, .inl o60.2))])) H := hP
              have hD : va_D A ((a0, .inr (9, [g7, g8, g9, .ref a2, g10, g11, g12, g13, g14, g15, g16, g17, g18, g19, g20, .ref a1, g21, g22, g23, g24, g25, g26, g27, g28, g29, g30, g31, .int v4_m_c.1, .int v4_m_c.2.1, .int v4_m_c.2.2])) :: bX11 a2 uq kq q_q ([(a1, .inl (cB33, 26, .inl o60.2))])) := hD
              refine lv_istore (lv' := [(4, .int o60.1), (3, .int v4_l3), (2, .int v4_l2), (0, .ref a0), (1, .ref a1)]) hx hb dX12_goesBy_63 hl (by decide) rfl (fun ls hl => ?_)
              refine lv_iload hx hb dX12_goesBy_65 (lv_at hl 0 rfl) ?_
              refine lv_bipush (v := (-2)) hx hb dX12_goesBy_67 (by decide) ?_
              refine lv_icmp_ne (tgt := 75) hx hb dX12_goesBy_69 (by decide) (fun c69 => ?_) (fun c69 => ?_)
              · have h := (if_neg c69).symm.trans h
                refine lv_aload_n hx hb dX12_goesBy_75 rfl (lv_at hl 4 rfl) ?_
                refine lv_bipush (v := 18) hx hb dX12_goesBy_76 (by decide) ?_
                refine lv_iload_n hx hb dX12_goesBy_78 rfl (lv_at hl 1 rfl) ?_
                refine lv_iadd hx hb dX12_goesBy_79 ?_
                refine lv_bipush (v := (-2)) hx hb dX12_goesBy_80 (by decide) ?_
                obtain ⟨hg82, h⟩ := gA_of h
                refine va_iast hx hb hK hP hD hS 16 14 rfl rfl hg82 dX12_goesBy_82 (fun H locs hP hD hS => ?_)
                have hP : va_P (dC, dI) vwCl ((a0, .inr (9, [g7, g8, g9, .ref a2, g10, g11, g12, g13, g14, g15, g16, g17, g18, g19, g20, .ref a1, g21, g22, g23, g24, g25, g26, g27, g28, g29, g30, g31, .int v4_m_c.1, .int v4_m_c.2.1, .int v4_m_c.2.2])) :: bX11 a2 uq kq q_q ([(a1, .inl (cB33, 26, .inl (upd o60.2 (((18 : Int32) + v4_l3)).toNatClampNeg (-2 : Int32))))])) H := hP
                have hD : va_D A ((a0, .inr (9, [g7, g8, g9, .ref a2, g10, g11, g12, g13, g14, g15, g16, g17, g18, g19, g20, .ref a1, g21, g22, g23, g24, g25, g26, g27, g28, g29, g30, g31, .int v4_m_c.1, .int v4_m_c.2.1, .int v4_m_c.2.2])) :: bX11 a2 uq kq q_q ([(a1, .inl (cB33, 26, .inl (upd o60.2 (((18 : Int32) + v4_l3)).toNatClampNeg (-2 : Int32))))])) := hD
                refine lv_aload_n hx hb dX12_goesBy_83 rfl (lv_at hl 3 rfl) ?_
                refine va_get (D := (dC, dI)) (ci := 9) (v := .ref a2) (C := RX12) (T := TX12) (N := 30) hx hb hts ifX12_goesBy_X12 hown hK hP 0 rfl rfl 3 (by decide) (hts (.fieldLink RX12 299 "HookPierModel" "pier" "LHookPierModel$Pier;") (List.mem_of_getElem? (i := 1) rfl)) (fun _ h9 => h9) rfl dX12_goesBy_84 ?_
                refine va_getN (D := (dC, dI)) (ci := 8) (v := .ref (uq 1)) (C := RX11) (T := TX11) (N := 24) hx hb hts ifX12_goesBy_X11 hown hK hP 1 rfl rfl 11 (by decide) (va_Nw.use rfl (hN.1 (.fieldLinkNest RX12 256 "HookPierModel$Pier" "kind" "[I" "HookPierModel") (List.mem_of_getElem? (i := 33) rfl))) (fun _ h9 => h9) rfl dX12_goesBy_87 ?_
                refine lv_iload hx hb dX12_goesBy_90 (lv_at hl 0 rfl) ?_
                obtain ⟨hg92, h⟩ := gA_of h
                refine va_iald hx hb hK hP 3 1 rfl rfl hg92 dX12_goesBy_92 ?_
                refine lv_iconst (v := 2) hx hb dX12_goesBy_93 (by decide) ?_
                refine lv_icmp_ne (tgt := 110) hx hb dX12_goesBy_94 (by decide) (fun c94 => ?_) (fun c94 => ?_)
                · have h := (if_neg c94).symm.trans h
                  refine lv_aload_n hx hb dX12_goesBy_110 rfl (lv_at hl 4 rfl) ?_
                  refine lv_iconst (v := 0) hx hb dX12_goesBy_111 (by decide) ?_
                  refine lv_iload hx hb dX12_goesBy_112 (lv_at hl 0 rfl) ?_
                  refine lv_iadd hx hb dX12_goesBy_114 ?_
                  refine lv_iconst (v := 1) hx hb dX12_goesBy_115 (by decide) ?_
                  obtain ⟨hg116, h⟩ := gA_of h
                  refine va_iast hx hb hK hP hD hS 16 14 rfl rfl hg116 dX12_goesBy_116 (fun H locs hP hD hS => ?_)
                  have hP : va_P (dC, dI) vwCl ((a0, .inr (9, [g7, g8, g9, .ref a2, g10, g11, g12, g13, g14, g15, g16, g17, g18, g19, g20, .ref a1, g21, g22, g23, g24, g25, g26, g27, g28, g29, g30, g31, .int v4_m_c.1, .int v4_m_c.2.1, .int v4_m_c.2.2])) :: bX11 a2 uq kq q_q ([(a1, .inl (cB33, 26, .inl (upd (upd o60.2 (((18 : Int32) + v4_l3)).toNatClampNeg (-2 : Int32)) (((0 : Int32) + o60.1)).toNatClampNeg (1 : Int32))))])) H := hP
                  have hD : va_D A ((a0, .inr (9, [g7, g8, g9, .ref a2, g10, g11, g12, g13, g14, g15, g16, g17, g18, g19, g20, .ref a1, g21, g22, g23, g24, g25, g26, g27, g28, g29, g30, g31, .int v4_m_c.1, .int v4_m_c.2.1, .int v4_m_c.2.2])) :: bX11 a2 uq kq q_q ([(a1, .inl (cB33, 26, .inl (upd (upd o60.2 (((18 : Int32) + v4_l3)).toNatClampNeg (-2 : Int32)) (((0 : Int32) + o60.1)).toNatClampNeg (1 : Int32))))])) := hD
                  refine lv_aload_n hx hb dX12_goesBy_117 rfl (lv_at hl 4 rfl) ?_
                  refine lv_bipush (v := 6) hx hb dX12_goesBy_118 (by decide) ?_
                  refine lv_iload hx hb dX12_goesBy_120 (lv_at hl 0 rfl) ?_
                  refine lv_iadd hx hb dX12_goesBy_122 ?_
                  refine lv_aload_n hx hb dX12_goesBy_123 rfl (lv_at hl 4 rfl) ?_
                  refine lv_bipush (v := 23) hx hb dX12_goesBy_124 (by decide) ?_
                  refine va_iald hx hb hK hP 16 14 rfl rfl (by unfold vp_in; decide) dX12_goesBy_126 ?_
                  refine lv_topi (fun z126 ez126 => ?_)
                  have h := nm_of h z126 ez126
                  obtain ⟨hg127, h⟩ := gA_of h
                  refine va_iast hx hb hK hP hD hS 16 14 rfl rfl hg127 dX12_goesBy_127 (fun H locs hP hD hS => ?_)
                  have hP : va_P (dC, dI) vwCl ((a0, .inr (9, [g7, g8, g9, .ref a2, g10, g11, g12, g13, g14, g15, g16, g17, g18, g19, g20, .ref a1, g21, g22, g23, g24, g25, g26, g27, g28, g29, g30, g31, .int v4_m_c.1, .int v4_m_c.2.1, .int v4_m_c.2.2])) :: bX11 a2 uq kq q_q ([(a1, .inl (cB33, 26, .inl (upd (upd (upd o60.2 (((18 : Int32) + v4_l3)).toNatClampNeg (-2 : Int32)) (((0 : Int32) + o60.1)).toNatClampNeg (1 : Int32)) (((6 : Int32) + o60.1)).toNatClampNeg z126)))])) H := hP
                  have hD : va_D A ((a0, .inr (9, [g7, g8, g9, .ref a2, g10, g11, g12, g13, g14, g15, g16, g17, g18, g19, g20, .ref a1, g21, g22, g23, g24, g25, g26, g27, g28, g29, g30, g31, .int v4_m_c.1, .int v4_m_c.2.1, .int v4_m_c.2.2])) :: bX11 a2 uq kq q_q ([(a1, .inl (cB33, 26, .inl (upd (upd (upd o60.2 (((18 : Int32) + v4_l3)).toNatClampNeg (-2 : Int32)) (((0 : Int32) + o60.1)).toNatClampNeg (1 : Int32)) (((6 : Int32) + o60.1)).toNatClampNeg z126)))])) := hD
                  refine lv_aload_n hx hb dX12_goesBy_128 rfl (lv_at hl 4 rfl) ?_
                  refine lv_bipush (v := 12) hx hb dX12_goesBy_129 (by decide) ?_
                  refine lv_iload hx hb dX12_goesBy_131 (lv_at hl 0 rfl) ?_
                  refine lv_iadd hx hb dX12_goesBy_133 ?_
                  refine lv_iload_n hx hb dX12_goesBy_134 rfl (lv_at hl 1 rfl) ?_
                  obtain ⟨hg135, h⟩ := gA_of h
                  refine va_iast hx hb hK hP hD hS 16 14 rfl rfl hg135 dX12_goesBy_135 (fun H locs hP hD hS => ?_)
                  have hP : va_P (dC, dI) vwCl ((a0, .inr (9, [g7, g8, g9, .ref a2, g10, g11, g12, g13, g14, g15, g16, g17, g18, g19, g20, .ref a1, g21, g22, g23, g24, g25, g26, g27, g28, g29, g30, g31, .int v4_m_c.1, .int v4_m_c.2.1, .int v4_m_c.2.2])) :: bX11 a2 uq kq q_q ([(a1, .inl (cB33, 26, .inl (upd (upd (upd (upd o60.2 (((18 : Int32) + v4_l3)).toNatClampNeg (-2 : Int32)) (((0 : Int32) + o60.1)).toNatClampNeg (1 : Int32)) (((6 : Int32) + o60.1)).toNatClampNeg z126) (((12 : Int32) + o60.1)).toNatClampNeg v4_l3)))])) H := hP
                  have hD : va_D A ((a0, .inr (9, [g7, g8, g9, .ref a2, g10, g11, g12, g13, g14, g15, g16, g17, g18, g19, g20, .ref a1, g21, g22, g23, g24, g25, g26, g27, g28, g29, g30, g31, .int v4_m_c.1, .int v4_m_c.2.1, .int v4_m_c.2.2])) :: bX11 a2 uq kq q_q ([(a1, .inl (cB33, 26, .inl (upd (upd (upd (upd o60.2 (((18 : Int32) + v4_l3)).toNatClampNeg (-2 : Int32)) (((0 : Int32) + o60.1)).toNatClampNeg (1 : Int32)) (((6 : Int32) + o60.1)).toNatClampNeg z126) (((12 : Int32) + o60.1)).toNatClampNeg v4_l3)))])) := hD
                  refine lv_iload_n hx hb dX12_goesBy_136 rfl (lv_at hl 2 rfl) ?_
                  refine lv_iconst (v := 1) hx hb dX12_goesBy_137 (by decide) ?_
                  refine lv_iload hx hb dX12_goesBy_138 (lv_at hl 0 rfl) ?_
                  refine lv_ishl hx hb dX12_goesBy_140 ?_
                  refine lv_ior hx hb dX12_goesBy_141 ?_
                  refine lv_istore_n (lv' := [(2, .int (v4_l2 ||| ((1 : Int32) <<< (o60.1 &&& 31)))), (4, .int o60.1), (3, .int v4_l3), (0, .ref a0), (1, .ref a1)]) hx hb dX12_goesBy_142 rfl hl (by decide) rfl (fun ls hl => ?_)
                  exact J143 (v4_l2 ||| ((1 : Int32) <<< (o60.1 &&& 31))) (upd (upd (upd (upd o60.2 (((18 : Int32) + v4_l3)).toNatClampNeg (-2 : Int32)) (((0 : Int32) + o60.1)).toNatClampNeg (1 : Int32)) (((6 : Int32) + o60.1)).toNatClampNeg z126) (((12 : Int32) + o60.1)).toNatClampNeg v4_l3) v4_m_c H _ ls h  (hP.sub (ws' := ((a0, .inr (9, [g7, g8, g9, .ref a2, g10, g11, g12, g13, g14, g15, g16, g17, g18, g19, g20, .ref a1, g21, g22, g23, g24, g25, g26, g27, g28, g29, g30, g31, .int v4_m_c.1, .int v4_m_c.2.1, .int v4_m_c.2.2])) :: (a1, .inl (cB33, 26, .inl (upd (upd (upd (upd o60.2 (((18 : Int32) + v4_l3)).toNatClampNeg (-2 : Int32)) (((0 : Int32) + o60.1)).toNatClampNeg (1 : Int32)) (((6 : Int32) + o60.1)).toNatClampNeg z126) (((12 : Int32) + o60.1)).toNatClampNeg v4_l3))) :: bX11 a2 uq kq q_q [])) [0, 16, 1, 2, 3, 4, 5, 6, 7, 8, 9, 10, 11, 12, 13, 14, 15] rfl) (hD.sub (ws' := ((a0, .inr (9, [g7, g8, g9, .ref a2, g10, g11, g12, g13, g14, g15, g16, g17, g18, g19, g20, .ref a1, g21, g22, g23, g24, g25, g26, g27, g28, g29, g30, g31, .int v4_m_c.1, .int v4_m_c.2.1, .int v4_m_c.2.2])) :: (a1, .inl (cB33, 26, .inl (upd (upd (upd (upd o60.2 (((18 : Int32) + v4_l3)).toNatClampNeg (-2 : Int32)) (((0 : Int32) + o60.1)).toNatClampNeg (1 : Int32)) (((6 : Int32) + o60.1)).toNatClampNeg z126) (((12 : Int32) + o60.1)).toNatClampNeg v4_l3))) :: bX11 a2 uq kq q_q [])) [0, 16, 1, 2, 3, 4, 5, 6, 7, 8, 9, 10, 11, 12, 13, 14, 15] (by decide) rfl) hS (lv_sub hl [2, 0, 3, 4] rfl)
                · have h := (if_pos c94).symm.trans h
                  refine lv_aload_n hx hb dX12_goesBy_97 rfl (lv_at hl 3 rfl) ?_
                  refine lv_dup hx hb dX12_goesBy_98 rfl ?_
                  refine va_get (D := (dC, dI)) (ci := 9) (v := .int v4_m_c.1) (C := RX12) (T := TX12) (N := 30) hx hb hts ifX12_goesBy_X12 hown hK hP 0 rfl rfl 27 (by decide) (hts (.fieldLink RX12 473 "HookPierModel" "crabsNow" "I") (List.mem_of_getElem? (i := 13) rfl)) (fun _ h9 => h9) rfl dX12_goesBy_99 ?_
                  refine lv_iconst (v := 1) hx hb dX12_goesBy_102 (by decide) ?_
                  refine lv_iadd hx hb dX12_goesBy_103 ?_
                  refine va_put (D := (dC, dI)) (ci := 9) (v := .int (v4_m_c.1 + (1 : Int32))) (ty := .int) (C := RX12) (T := TX12) (N := 30) hx hb hts ifX12_goesBy_X12 tyX12 tyX12_ok nmX12 hown hK hP hD hS 0 rfl rfl 27 (by decide) (hts (.fieldLink RX12 473 "HookPierModel" "crabsNow" "I") (List.mem_of_getElem? (i := 13) rfl)) (fun _ h9 => h9) rfl (by decide +kernel) rfl rfl (Nat.le_of_ble_eq_true rfl) dX12_goesBy_104 (fun H locs hP hD hS => ?_)
                  have hP : va_P (dC, dI) vwCl ((a0, .inr (9, [g7, g8, g9, .ref a2, g10, g11, g12, g13, g14, g15, g16, g17, g18, g19, g20, .ref a1, g21, g22, g23, g24, g25, g26, g27, g28, g29, g30, g31, .int (v4_m_c.1 + (1 : Int32)), .int v4_m_c.2.1, .int v4_m_c.2.2])) :: bX11 a2 uq kq q_q ([(a1, .inl (cB33, 26, .inl (upd o60.2 (((18 : Int32) + v4_l3)).toNatClampNeg (-2 : Int32))))])) H := hP
                  have hD : va_D A ((a0, .inr (9, [g7, g8, g9, .ref a2, g10, g11, g12, g13, g14, g15, g16, g17, g18, g19, g20, .ref a1, g21, g22, g23, g24, g25, g26, g27, g28, g29, g30, g31, .int (v4_m_c.1 + (1 : Int32)), .int v4_m_c.2.1, .int v4_m_c.2.2])) :: bX11 a2 uq kq q_q ([(a1, .inl (cB33, 26, .inl (upd o60.2 (((18 : Int32) + v4_l3)).toNatClampNeg (-2 : Int32))))])) := hD
                  refine lv_goto (tgt := 143) hx hb dX12_goesBy_107 (by decide) ?_
                  exact J143 v4_l2 (upd o60.2 (((18 : Int32) + v4_l3)).toNatClampNeg (-2 : Int32)) ((v4_m_c.1 + (1 : Int32)), v4_m_c.2) H _ ls h  (hP.sub (ws' := ((a0, .inr (9, [g7, g8, g9, .ref a2, g10, g11, g12, g13, g14, g15, g16, g17, g18, g19, g20, .ref a1, g21, g22, g23, g24, g25, g26, g27, g28, g29, g30, g31, .int (v4_m_c.1 + (1 : Int32)), .int v4_m_c.2.1, .int v4_m_c.2.2])) :: (a1, .inl (cB33, 26, .inl (upd o60.2 (((18 : Int32) + v4_l3)).toNatClampNeg (-2 : Int32)))) :: bX11 a2 uq kq q_q [])) [0, 16, 1, 2, 3, 4, 5, 6, 7, 8, 9, 10, 11, 12, 13, 14, 15] rfl) (hD.sub (ws' := ((a0, .inr (9, [g7, g8, g9, .ref a2, g10, g11, g12, g13, g14, g15, g16, g17, g18, g19, g20, .ref a1, g21, g22, g23, g24, g25, g26, g27, g28, g29, g30, g31, .int (v4_m_c.1 + (1 : Int32)), .int v4_m_c.2.1, .int v4_m_c.2.2])) :: (a1, .inl (cB33, 26, .inl (upd o60.2 (((18 : Int32) + v4_l3)).toNatClampNeg (-2 : Int32)))) :: bX11 a2 uq kq q_q [])) [0, 16, 1, 2, 3, 4, 5, 6, 7, 8, 9, 10, 11, 12, 13, 14, 15] (by decide) rfl) hS (lv_sub hl [1, 2, 3, 4] rfl)
              · have h := (if_pos c69).symm.trans h
                refine lv_goto (tgt := 143) hx hb dX12_goesBy_72 (by decide) ?_
                exact J143 v4_l2 o60.2 v4_m_c H _ ls h  (hP.sub (ws' := ((a0, .inr (9, [g7, g8, g9, .ref a2, g10, g11, g12, g13, g14, g15, g16, g17, g18, g19, g20, .ref a1, g21, g22, g23, g24, g25, g26, g27, g28, g29, g30, g31, .int v4_m_c.1, .int v4_m_c.2.1, .int v4_m_c.2.2])) :: (a1, .inl (cB33, 26, .inl o60.2)) :: bX11 a2 uq kq q_q [])) [0, 16, 1, 2, 3, 4, 5, 6, 7, 8, 9, 10, 11, 12, 13, 14, 15] rfl) (hD.sub (ws' := ((a0, .inr (9, [g7, g8, g9, .ref a2, g10, g11, g12, g13, g14, g15, g16, g17, g18, g19, g20, .ref a1, g21, g22, g23, g24, g25, g26, g27, g28, g29, g30, g31, .int v4_m_c.1, .int v4_m_c.2.1, .int v4_m_c.2.2])) :: (a1, .inl (cB33, 26, .inl o60.2)) :: bX11 a2 uq kq q_q [])) [0, 16, 1, 2, 3, 4, 5, 6, 7, 8, 9, 10, 11, 12, 13, 14, 15] (by decide) rfl) hS (lv_sub hl [1, 2, 3, 4] rfl)
            · have h := (if_neg c46).symm.trans h
              refine lv_goto (tgt := 143) hx hb dX12_goesBy_49 (by decide) ?_
              exact J143 v4_l2 v4_m_v v4_m_c H _ ls h  (hP.sub (ws' := ((a0, .inr (9, [g7, g8, g9, .ref a2, g10, g11, g12, g13, g14, g15, g16, g17, g18, g19, g20, .ref a1, g21, g22, g23, g24, g25, g26, g27, g28, g29, g30, g31, .int v4_m_c.1, .int v4_m_c.2.1, .int v4_m_c.2.2])) :: (a1, .inl (cB33, 26, .inl v4_m_v)) :: bX11 a2 uq kq q_q [])) [0, 16, 1, 2, 3, 4, 5, 6, 7, 8, 9, 10, 11, 12, 13, 14, 15] rfl) (hD.sub (ws' := ((a0, .inr (9, [g7, g8, g9, .ref a2, g10, g11, g12, g13, g14, g15, g16, g17, g18, g19, g20, .ref a1, g21, g22, g23, g24, g25, g26, g27, g28, g29, g30, g31, .int v4_m_c.1, .int v4_m_c.2.1, .int v4_m_c.2.2])) :: (a1, .inl (cB33, 26, .inl v4_m_v)) :: bX11 a2 uq kq q_q [])) [0, 16, 1, 2, 3, 4, 5, 6, 7, 8, 9, 10, 11, 12, 13, 14, 15] (by decide) rfl) hS (lv_sub hl [0, 1, 2, 3] rfl)
  exact L4 FU (0 : Int32) (0 : Int32) m_v m_c s.heap _ ls h  hP hD hS (lv_sub hl [0, 1, 2, 3] rfl)
