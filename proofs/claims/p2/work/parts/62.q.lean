theorem dX12_worth_0 : decode cX12_worth 0 = .ok (.aload_n 0, 1) := by decide +kernel
theorem dX12_worth_1 : decode cX12_worth 1 = .ok (.iconst 0, 1) := by decide +kernel
theorem dX12_worth_10 : decode cX12_worth 10 = .ok (.ifCond .ne 9, 3) := by decide +kernel
theorem dX12_worth_13 : decode cX12_worth 13 = .ok (.aload_n 0, 1) := by decide +kernel
theorem dX12_worth_14 : decode cX12_worth 14 = .ok (.iconst 1, 1) := by decide +kernel
theorem dX12_worth_15 : decode cX12_worth 15 = .ok (.invokevirtual 42, 3) := by decide +kernel
theorem dX12_worth_18 : decode cX12_worth 18 = .ok (.ireturn, 1) := by decide +kernel
theorem dX12_worth_19 : decode cX12_worth 19 = .ok (.iload_n 2, 1) := by decide +kernel
theorem dX12_worth_2 : decode cX12_worth 2 = .ok (.putfield 36, 3) := by decide +kernel
theorem dX12_worth_20 : decode cX12_worth 20 = .ok (.iconst 0, 1) := by decide +kernel
theorem dX12_worth_21 : decode cX12_worth 21 = .ok (.sipush 999, 3) := by decide +kernel
theorem dX12_worth_24 : decode cX12_worth 24 = .ok (.invokestatic 115, 3) := by decide +kernel
theorem dX12_worth_27 : decode cX12_worth 27 = .ok (.ifCond .eq 28, 3) := by decide +kernel
theorem dX12_worth_30 : decode cX12_worth 30 = .ok (.iload_n 3, 1) := by decide +kernel
theorem dX12_worth_31 : decode cX12_worth 31 = .ok (.iload_n 2, 1) := by decide +kernel
theorem dX12_worth_32 : decode cX12_worth 32 = .ok (.sipush 999, 3) := by decide +kernel
theorem dX12_worth_35 : decode cX12_worth 35 = .ok (.invokestatic 115, 3) := by decide +kernel
theorem dX12_worth_38 : decode cX12_worth 38 = .ok (.ifCond .eq 17, 3) := by decide +kernel
theorem dX12_worth_41 : decode cX12_worth 41 = .ok (.aload_n 0, 1) := by decide +kernel
theorem dX12_worth_42 : decode cX12_worth 42 = .ok (.aload_n 0, 1) := by decide +kernel
theorem dX12_worth_43 : decode cX12_worth 43 = .ok (.iload_n 1, 1) := by decide +kernel
theorem dX12_worth_44 : decode cX12_worth 44 = .ok (.iload_n 2, 1) := by decide +kernel
theorem dX12_worth_45 : decode cX12_worth 45 = .ok (.iload_n 3, 1) := by decide +kernel
theorem dX12_worth_46 : decode cX12_worth 46 = .ok (.invokevirtual 323, 3) := by decide +kernel
theorem dX12_worth_49 : decode cX12_worth 49 = .ok (.invokevirtual 46, 3) := by decide +kernel
theorem dX12_worth_5 : decode cX12_worth 5 = .ok (.aload_n 0, 1) := by decide +kernel
theorem dX12_worth_52 : decode cX12_worth 52 = .ok (.goto 8, 3) := by decide +kernel
theorem dX12_worth_55 : decode cX12_worth 55 = .ok (.aload_n 0, 1) := by decide +kernel
theorem dX12_worth_56 : decode cX12_worth 56 = .ok (.iconst 2, 1) := by decide +kernel
theorem dX12_worth_57 : decode cX12_worth 57 = .ok (.invokevirtual 42, 3) := by decide +kernel
theorem dX12_worth_6 : decode cX12_worth 6 = .ok (.iload_n 1, 1) := by decide +kernel
theorem dX12_worth_60 : decode cX12_worth 60 = .ok (.ireturn, 1) := by decide +kernel
theorem dX12_worth_7 : decode cX12_worth 7 = .ok (.invokevirtual 320, 3) := by decide +kernel
def vfX12_worth : List Cond := .code yX12_worth cX12_worth 4 (some .int) :: ([.fieldLink RX12 36 "HookPierModel" "thrown" "I", .methodLink RX12 320 yX12_isAnswer, .instanceMethod yX12_isAnswer, .selects RX12 yX12_isAnswer yX12_isAnswer, .initialized RX12, .code yX12_isAnswer cX12_isAnswer 2 (some .boolean), .fieldLink RX12 299 "HookPierModel" "pier" "LHookPierModel$Pier;", .methodLink RX12 115 yX12_in, .static yX12_in, .code yX12_in cX12_in 3 (some .boolean), .methodLink RX12 42 yX12_refused, .instanceMethod yX12_refused, .selects RX12 yX12_refused yX12_refused, .code yX12_refused cX12_refused 2 (some .int), .fieldLink RX12 39 "HookPierModel" "trouble" "I", .fieldLink RX12 9 "HookPierModel" "where" "I", .methodLink RX12 323 yX12_keeps, .instanceMethod yX12_keeps, .selects RX12 yX12_keeps yX12_keeps, .code yX12_keeps cX12_keeps 5 (some .int), .methodLink RX12 46 yX12_good, .instanceMethod yX12_good, .selects RX12 yX12_good yX12_good, .code yX12_good cX12_good 2 (some .int)] ++ wsX120 ++ wsX110)
theorem ifX12_worth_X12 : ∀ w ∈ wsX120, w ∈ vfX12_worth := fun _ h => List.mem_cons_of_mem _ (List.mem_append_left _ (List.mem_append_right _ h))
theorem ifX12_worth_X11 : ∀ w ∈ wsX110, w ∈ vfX12_worth := fun _ h => List.mem_cons_of_mem _ (List.mem_append_right _ h)
set_option maxRecDepth 20000 in
theorem gfX12_worth_0 : GoodIn vfX12_worth (wsV RX12 320 RX12 yX12_isAnswer vfX12_isAnswer) := goodIn_app (goodIn_r [.methodLink RX12 320 yX12_isAnswer, .instanceMethod yX12_isAnswer, .selects RX12 yX12_isAnswer yX12_isAnswer, .initialized RX12] [2, 3, 4, 5] (by decide +kernel) (by decide +kernel)) (goodIn_ca (goodIn_ca (goodIn_r (.code yX12_isAnswer cX12_isAnswer 2 (some .boolean) :: [.fieldLink RX12 299 "HookPierModel" "pier" "LHookPierModel$Pier;"]) [6, 7] (by decide +kernel) (by decide +kernel) : GoodIn vfX12_worth (.code yX12_isAnswer cX12_isAnswer 2 (some .boolean) :: [.fieldLink RX12 299 "HookPierModel" "pier" "LHookPierModel$Pier;"])) (goodIn_sub ifX12_worth_X12 (by decide +kernel))) (goodIn_sub ifX12_worth_X11 (by decide +kernel)))
set_option maxRecDepth 20000 in
theorem gfX12_worth_1 : GoodIn vfX12_worth (va_wsS RX12 115 yX12_in vfX12_in) := goodIn_app (goodIn_r [.methodLink RX12 115 yX12_in, .static yX12_in, .initialized RX12] [8, 9, 5] (by decide +kernel) (by decide +kernel)) (goodIn_r (.code yX12_in cX12_in 3 (some .boolean) :: []) [10] (by decide +kernel) (by decide +kernel) : GoodIn vfX12_worth (.code yX12_in cX12_in 3 (some .boolean) :: []))
set_option maxRecDepth 20000 in
theorem gfX12_worth_2 : GoodIn vfX12_worth (wsV RX12 42 RX12 yX12_refused vfX12_refused) := goodIn_app (goodIn_r [.methodLink RX12 42 yX12_refused, .instanceMethod yX12_refused, .selects RX12 yX12_refused yX12_refused, .initialized RX12] [11, 12, 13, 5] (by decide +kernel) (by decide +kernel)) (goodIn_ca (goodIn_r (.code yX12_refused cX12_refused 2 (some .int) :: [.fieldLink RX12 39 "HookPierModel" "trouble" "I", .fieldLink RX12 9 "HookPierModel" "where" "I"]) [14, 15, 16] (by decide +kernel) (by decide +kernel) : GoodIn vfX12_worth (.code yX12_refused cX12_refused 2 (some .int) :: [.fieldLink RX12 39 "HookPierModel" "trouble" "I", .fieldLink RX12 9 "HookPierModel" "where" "I"])) (goodIn_sub ifX12_worth_X12 (by decide +kernel)))
set_option maxRecDepth 20000 in
theorem gfX12_worth_3 : GoodIn vfX12_worth (wsV RX12 323 RX12 yX12_keeps vfX12_keeps) := goodIn_app (goodIn_r [.methodLink RX12 323 yX12_keeps, .instanceMethod yX12_keeps, .selects RX12 yX12_keeps yX12_keeps, .initialized RX12] [17, 18, 19, 5] (by decide +kernel) (by decide +kernel)) (goodIn_ca (goodIn_ca (goodIn_r (.code yX12_keeps cX12_keeps 5 (some .int) :: [.fieldLink RX12 299 "HookPierModel" "pier" "LHookPierModel$Pier;"]) [20, 7] (by decide +kernel) (by decide +kernel) : GoodIn vfX12_worth (.code yX12_keeps cX12_keeps 5 (some .int) :: [.fieldLink RX12 299 "HookPierModel" "pier" "LHookPierModel$Pier;"])) (goodIn_sub ifX12_worth_X12 (by decide +kernel))) (goodIn_sub ifX12_worth_X11 (by decide +kernel)))
set_option maxRecDepth 20000 in
theorem gfX12_worth_4 : GoodIn vfX12_worth (wsV RX12 46 RX12 yX12_good vfX12_good) := goodIn_app (goodIn_r [.methodLink RX12 46 yX12_good, .instanceMethod yX12_good, .selects RX12 yX12_good yX12_good, .initialized RX12] [21, 22, 23, 5] (by decide +kernel) (by decide +kernel)) (goodIn_ca (goodIn_r (.code yX12_good cX12_good 2 (some .int) :: [.fieldLink RX12 39 "HookPierModel" "trouble" "I", .fieldLink RX12 9 "HookPierModel" "where" "I"]) [24, 15, 16] (by decide +kernel) (by decide +kernel) : GoodIn vfX12_worth (.code yX12_good cX12_good 2 (some .int) :: [.fieldLink RX12 39 "HookPierModel" "trouble" "I", .fieldLink RX12 9 "HookPierModel" "where" "I"])) (goodIn_sub ifX12_worth_X12 (by decide +kernel)))
set_option maxHeartbeats 2000000 in
set_option maxRecDepth 100000 in
theorem kfX12_worth (l : Launch) (dC : Nat → ClassId) (dI : Nat → Nat → Nat) (a0 : Nat) (k1 : Int32) (k2 : Int32) (k3 : Int32) (a4 : Nat) (uq : Nat → Nat) (kq : Nat → ClassId) (m_t : TX12_t) (g8 : Value) (g9 : Value) (g10 : Value) (g11 : Value) (g12 : Value) (g13 : Value) (g14 : Value) (g15 : Value) (g16 : Value) (g17 : Value) (g18 : Value) (g19 : Value) (g20 : Value) (g21 : Value) (g22 : Value) (g23 : Value) (g24 : Value) (g25 : Value) (g26 : Value) (g27 : Value) (g28 : Value) (g29 : Value) (g30 : Value) (g31 : Value) (g32 : Value) (g33 : Value) (q_q : TX11_q) (sz : Nat) (out : (Int32 × TX12_t)) (h : f_X12_worth k1 k2 k3 m_t q_q = some out) : Met l yX12_worth vfX12_worth ({ frames := 1, cells := 0, slots := 0, locals := 24 }) (PC (dC, dI) [.ref a0, .int k1, .int k2, .int k3] sz ((a0, .inr (9, [.int m_t.1, .int m_t.2.1, .int m_t.2.2, .ref a4, g8, g9, g10, g11, g12, g13, g14, g15, g16, g17, g18, g19, g20, g21, g22, g23, g24, g25, g26, g27, g28, g29, g30, g31, g32, g33])) :: bX11 a4 uq kq q_q []) (tX11 kq ([]))) (va_Qi (S := Unit) (fun (r : Int32) _ => r = out.1) (fun _ t => BC (dC, dI) (va_A ((a0, .inr (9, [.int m_t.1, .int m_t.2.1, .int m_t.2.2, .ref a4, g8, g9, g10, g11, g12, g13, g14, g15, g16, g17, g18, g19, g20, g21, g22, g23, g24, g25, g26, g27, g28, g29, g30, g31, g32, g33])) :: bX11 a4 uq kq q_q []) sz) ((a0, .inr (9, [.int out.2.1, .int out.2.2.1, .int out.2.2.2, .ref a4, g8, g9, g10, g11, g12, g13, g14, g15, g16, g17, g18, g19, g20, g21, g22, g23, g24, g25, g26, g27, g28, g29, g30, g31, g32, g33])) :: bX11 a4 uq kq q_q []) [] t) (va_A ((a0, .inr (9, [.int m_t.1, .int m_t.2.1, .int m_t.2.2, .ref a4, g8, g9, g10, g11, g12, g13, g14, g15, g16, g17, g18, g19, g20, g21, g22, g23, g24, g25, g26, g27, g28, g29, g30, g31, g32, g33])) :: bX11 a4 uq kq q_q []) sz)) 0 0 (va_A ((a0, .inr (9, [.int m_t.1, .int m_t.2.1, .int m_t.2.2, .ref a4, g8, g9, g10, g11, g12, g13, g14, g15, g16, g17, g18, g19, g20, g21, g22, g23, g24, g25, g26, g27, g28, g29, g30, g31, g32, g33])) :: bX11 a4 uq kq q_q []) sz) := by
  refine Met.ofW (cc := cX12_worth) (maxL := 4) (ret := (some .int)) (by decide) rfl ?_
  intro p e s m args below meth c s₁ B0 hml hv
  obtain ⟨rfl, hsz, hP, hK, hD0, hN⟩ := hv
  have hx := B0.exec
  have hb := B0.bytes
  have hr := B0.returns
  have hts := atoms_spec (ws := vfX12_worth) B0.pre
  have hown : s.vm.findClass RX12 = some m.cls := findClass_of_methodNamed B0.named
  have hlocks := B0.notSynchronized
  subst hsz
  have hD := hD0.self (sz := s.heap.size)
  generalize hAe : va_A ((a0, .inr (9, [.int m_t.1, .int m_t.2.1, .int m_t.2.2, .ref a4, g8, g9, g10, g11, g12, g13, g14, g15, g16, g17, g18, g19, g20, g21, g22, g23, g24, g25, g26, g27, g28, g29, g30, g31, g32, g33])) :: bX11 a4 uq kq q_q []) s.heap.size = A at hD ⊢
  have hA : ∀ q : Nat, s.heap.size ≤ q → A q := fun q h => by rw [← hAe]; exact Or.inr h
  have hS : va_S A s.heap s.heap [] := va_S.rf
  have hP : va_P (dC, dI) vwCl ((a0, .inr (9, [.int m_t.1, .int m_t.2.1, .int m_t.2.2, .ref a4, g8, g9, g10, g11, g12, g13, g14, g15, g16, g17, g18, g19, g20, g21, g22, g23, g24, g25, g26, g27, g28, g29, g30, g31, g32, g33])) :: bX11 a4 uq kq q_q []) s.heap := hP
  have hl := lv_entry ([.ref a0, .int k1, .int k2, .int k3]) (n := 4) (Nat.le_of_ble_eq_true rfl)
  rw [lg_entry_eq]
  generalize (lg_sl ([.ref a0, .int k1, .int k2, .int k3]) ++ List.replicate (4 - (lg_sl ([.ref a0, .int k1, .int k2, .int k3])).length) Slot.unset).toArray = ls at hl ⊢
  have hl : lv_has ls 4 [(0, .ref a0), (1, .int k1), (2, .int k2), (3, .int k3)] := hl
  refine W_q (fun QQ hQQ => ?_)
  rw [f_X12_worth] at h
  refine lv_aload_n hx hb dX12_worth_0 rfl (lv_at hl 0 rfl) ?_
  refine lv_iconst (v := 0) hx hb dX12_worth_1 (by decide) ?_
  refine va_put (D := (dC, dI)) (ci := 9) (v := .int 0) (ty := .int) (C := RX12) (T := TX12) (N := 30) hx hb hts ifX12_worth_X12 tyX12 tyX12_ok nmX12 hown hK hP hD hS 0 rfl rfl 0 (by decide) (hts (.fieldLink RX12 36 "HookPierModel" "thrown" "I") (List.mem_of_getElem? (i := 1) rfl)) (fun _ h9 => h9) rfl (by decide +kernel) rfl rfl (Nat.le_of_ble_eq_true rfl) dX12_worth_2 (fun H locs hP hD hS => ?_)
  have hP : va_P (dC, dI) vwCl ((a0, .inr (9, [.int 0, .int m_t.2.1, .int m_t.2.2, .ref a4, g8, g9, g10, g11, g12, g13, g14, g15, g16, g17, g18, g19, g20, g21, g22, g23, g24, g25, g26, g27, g28, g29, g30, g31, g32, g33])) :: bX11 a4 uq kq q_q []) H := hP
  have hD : va_D A ((a0, .inr (9, [.int 0, .int m_t.2.1, .int m_t.2.2, .ref a4, g8, g9, g10, g11, g12, g13, g14, g15, g16, g17, g18, g19, g20, g21, g22, g23, g24, g25, g26, g27, g28, g29, g30, g31, g32, g33])) :: bX11 a4 uq kq q_q []) := hD
  refine lv_aload_n hx hb dX12_worth_5 rfl (lv_at hl 0 rfl) ?_
  refine lv_iload_n hx hb dX12_worth_6 rfl (lv_at hl 1 rfl) ?_
  obtain ⟨o7, eo7⟩ : ∃ o, o = f_X12_isAnswer k1 q_q := ⟨_, rfl⟩
  have h := nm_of h o7 eo7
  refine cl_i (wc := ((a0, .inr (9, [.int 0, .int m_t.2.1, .int m_t.2.2, .ref a4, g8, g9, g10, g11, g12, g13, g14, g15, g16, g17, g18, g19, g20, g21, g22, g23, g24, g25, g26, g27, g28, g29, g30, g31, g32, g33])) :: bX11 a4 uq kq q_q [])) (wr := []) (va_runV (As := [.int k1]) (rest := []) ⟨hx, hb, hml, hown, hts⟩ (kfX12_isAnswer l dC dI a0 k1 a4 uq kq (.int 0) (.int m_t.2.1) (.int m_t.2.2) (g8) (g9) (g10) (g11) (g12) (g13) (g14) (g15) (g16) (g17) (g18) (g19) (g20) (g21) (g22) (g23) (g24) (g25) (g26) (g27) (g28) (g29) (g30) (g31) (g32) (g33) q_q H.size o7 eo7.symm) (cwV 1 hts gfX12_worth_0 rfl rfl rfl (by decide +kernel) ⟨(Nat.le_of_ble_eq_true rfl), (Nat.le_of_ble_eq_true rfl)⟩) (PV (hP.sub (ws' := ((a0, .inr (9, [.int 0, .int m_t.2.1, .int m_t.2.2, .ref a4, g8, g9, g10, g11, g12, g13, g14, g15, g16, g17, g18, g19, g20, g21, g22, g23, g24, g25, g26, g27, g28, g29, g30, g31, g32, g33])) :: bX11 a4 uq kq q_q [])) [0, 1, 2, 3, 4, 5, 6, 7, 8, 9, 10, 11, 12, 13, 14, 15] rfl) (hK.sub (tys' := (tX11 kq ([]))) [0, 1, 2, 3, 4, 5, 6, 7, 8, 9, 10, 11, 12, 13] rfl) (hD.sub (ws' := ((a0, .inr (9, [.int 0, .int m_t.2.1, .int m_t.2.2, .ref a4, g8, g9, g10, g11, g12, g13, g14, g15, g16, g17, g18, g19, g20, g21, g22, g23, g24, g25, g26, g27, g28, g29, g30, g31, g32, g33])) :: bX11 a4 uq kq q_q [])) [0, 1, 2, 3, 4, 5, 6, 7, 8, 9, 10, 11, 12, 13, 14, 15] (by decide) rfl) hN 0 rfl rfl) rfl rfl hl.1 rfl (lv_room (Nat.le_of_ble_eq_true rfl)) dX12_worth_7 ⟨(Nat.le_of_ble_eq_true rfl), (Nat.le_of_ble_eq_true rfl)⟩) hP hD hK hS hA [0, 1, 2, 3, 4, 5, 6, 7, 8, 9, 10, 11, 12, 13, 14, 15] [] rfl rfl (by decide) (by decide) (fun r7 _ H locs hw hP hD _ hS => ?_)
  obtain ⟨hw, br7⟩ := hw
  obtain rfl := hw.symm
  have hP : va_P (dC, dI) vwCl ((a0, .inr (9, [.int 0, .int m_t.2.1, .int m_t.2.2, .ref a4, g8, g9, g10, g11, g12, g13, g14, g15, g16, g17, g18, g19, g20, g21, g22, g23, g24, g25, g26, g27, g28, g29, g30, g31, g32, g33])) :: bX11 a4 uq kq q_q []) H := hP
  have hD : va_D A ((a0, .inr (9, [.int 0, .int m_t.2.1, .int m_t.2.2, .ref a4, g8, g9, g10, g11, g12, g13, g14, g15, g16, g17, g18, g19, g20, g21, g22, g23, g24, g25, g26, g27, g28, g29, g30, g31, g32, g33])) :: bX11 a4 uq kq q_q []) := hD
  refine lv_if_ne (tgt := 19) hx hb dX12_worth_10 (by decide) (fun c10 => ?_) (fun c10 => ?_)
  · have h := (if_neg c10).symm.trans h
    refine lv_iload_n hx hb dX12_worth_19 rfl (lv_at hl 2 rfl) ?_
    refine lv_iconst (v := 0) hx hb dX12_worth_20 (by decide) ?_
    refine lv_sipush (v := 999) hx hb dX12_worth_21 (by decide) ?_
    obtain ⟨o24, eo24⟩ : ∃ o, o = f_X12_in k2 (0 : Int32) (999 : Int32) := ⟨_, rfl⟩
    have h := nm_of h o24 eo24
    refine cl_i (wc := []) (wr := ((a0, .inr (9, [.int 0, .int m_t.2.1, .int m_t.2.2, .ref a4, g8, g9, g10, g11, g12, g13, g14, g15, g16, g17, g18, g19, g20, g21, g22, g23, g24, g25, g26, g27, g28, g29, g30, g31, g32, g33])) :: bX11 a4 uq kq q_q [])) (va_runS (As := [.int k2, .int 0, .int 999]) (rest := []) ⟨hx, hb, hml, hown, hts⟩ (kfX12_in l dC dI k2 (0 : Int32) (999 : Int32) H.size o24 eo24.symm) (va_cwS 3 hts gfX12_worth_1 rfl rfl rfl (by decide +kernel) ⟨(Nat.le_of_ble_eq_true rfl), (Nat.le_of_ble_eq_true rfl)⟩) (PS (hP.sub (ws' := []) [] rfl) (hK.sub (tys' := ([])) [] rfl) (hD.sub (ws' := []) [] (by decide) rfl) hN) rfl rfl hl.1 rfl (lv_room (Nat.le_of_ble_eq_true rfl)) dX12_worth_24 ⟨(Nat.le_of_ble_eq_true rfl), (Nat.le_of_ble_eq_true rfl)⟩) hP hD hK hS hA [] [0, 1, 2, 3, 4, 5, 6, 7, 8, 9, 10, 11, 12, 13, 14, 15] rfl rfl (by decide) (by decide) (fun r24 _ H locs hw hP hD _ hS => ?_)
    obtain ⟨hw, br24⟩ := hw
    obtain rfl := hw.symm
    have hP : va_P (dC, dI) vwCl ((a0, .inr (9, [.int 0, .int m_t.2.1, .int m_t.2.2, .ref a4, g8, g9, g10, g11, g12, g13, g14, g15, g16, g17, g18, g19, g20, g21, g22, g23, g24, g25, g26, g27, g28, g29, g30, g31, g32, g33])) :: bX11 a4 uq kq q_q []) H := hP
    have hD : va_D A ((a0, .inr (9, [.int 0, .int m_t.2.1, .int m_t.2.2, .ref a4, g8, g9, g10, g11, g12, g13, g14, g15, g16, g17, g18, g19, g20, g21, g22, g23, g24, g25, g26, g27, g28, g29, g30, g31, g32, g33])) :: bX11 a4 uq kq q_q []) := hD
    have J55 : ∀ (H : Heap) (locs : List Loc) (ls : Array Slot), f_X12_worth_J55 m_t = some out → va_P (dC, dI) vwCl ((a0, .inr (9, [.int 0, .int m_t.2.1, .int m_t.2.2, .ref a4, g8, g9, g10, g11, g12, g13, g14, g15, g16, g17, g18, g19, g20, g21, g22, g23, g24, g25, g26, g27, g28, g29, g30, g31, g32, g33])) :: bX11 a4 uq kq q_q []) H → va_D A ((a0, .inr (9, [.int 0, .int m_t.2.1, .int m_t.2.2, .ref a4, g8, g9, g10, g11, g12, g13, g14, g15, g16, g17, g18, g19, g20, g21, g22, g23, g24, g25, g26, g27, g28, g29, g30, g31, g32, g33])) :: bX11 a4 uq kq q_q []) → va_S A s.heap H locs → lv_has ls 4 [(0, .ref a0)] → W p l e (headSpec vfX12_worth { frames := 1, cells := 0, slots := 0, locals := 24 }).room s m ([.ref a0, .int k1, .int k2, .int k3]).toArray below meth c H locs 0 0 QQ (F0 m 55 ls []) := by
      intro  H locs ls h  hP hD hS hl
      rw [f_X12_worth_J55] at h
      refine lv_aload_n hx hb dX12_worth_55 rfl (lv_at hl 0 rfl) ?_
      refine lv_iconst (v := 2) hx hb dX12_worth_56 (by decide) ?_
      obtain ⟨o57, eo57⟩ : ∃ o, o = f_X12_refused (2 : Int32) ((0 : Int32), m_t.2) := ⟨_, rfl⟩
      have h := nm_of h o57 eo57
      refine cl_i (wc := ([(a0, .inr (9, [.int 0, .int m_t.2.1, .int m_t.2.2, .ref a4, g8, g9, g10, g11, g12, g13, g14, g15, g16, g17, g18, g19, g20, g21, g22, g23, g24, g25, g26, g27, g28, g29, g30, g31, g32, g33]))])) (wr := (bX11 a4 uq kq q_q [])) (va_runV (As := [.int 2]) (rest := []) ⟨hx, hb, hml, hown, hts⟩ (kfX12_refused l dC dI a0 (2 : Int32) ((0 : Int32), m_t.2) (.ref a4) (g8) (g9) (g10) (g11) (g12) (g13) (g14) (g15) (g16) (g17) (g18) (g19) (g20) (g21) (g22) (g23) (g24) (g25) (g26) (g27) (g28) (g29) (g30) (g31) (g32) (g33) H.size o57 eo57.symm) (cwV 1 hts gfX12_worth_2 rfl rfl rfl (by decide +kernel) ⟨(Nat.le_of_ble_eq_true rfl), (Nat.le_of_ble_eq_true rfl)⟩) (PV (hP.sub (ws' := ([(a0, .inr (9, [.int 0, .int m_t.2.1, .int m_t.2.2, .ref a4, g8, g9, g10, g11, g12, g13, g14, g15, g16, g17, g18, g19, g20, g21, g22, g23, g24, g25, g26, g27, g28, g29, g30, g31, g32, g33]))])) [0] rfl) (hK.sub (tys' := ([])) [] rfl) (hD.sub (ws' := ([(a0, .inr (9, [.int 0, .int m_t.2.1, .int m_t.2.2, .ref a4, g8, g9, g10, g11, g12, g13, g14, g15, g16, g17, g18, g19, g20, g21, g22, g23, g24, g25, g26, g27, g28, g29, g30, g31, g32, g33]))])) [0] (by decide) rfl) hN 0 rfl rfl) rfl rfl hl.1 rfl (lv_room (Nat.le_of_ble_eq_true rfl)) dX12_worth_57 ⟨(Nat.le_of_ble_eq_true rfl), (Nat.le_of_ble_eq_true rfl)⟩) hP hD hK hS hA [0] [1, 2, 3, 4, 5, 6, 7, 8, 9, 10, 11, 12, 13, 14, 15] rfl rfl (by decide) (by decide) (fun r57 _ H locs hw hP hD _ hS => ?_)
      obtain rfl := hw
      have hP : va_P (dC, dI) vwCl (bX11 a4 uq kq q_q ([(a0, .inr (9, [.int o57.1, .int o57.2.1, .int o57.2.2, .ref a4, g8, g9, g10, g11, g12, g13, g14, g15, g16, g17, g18, g19, g20, g21, g22, g23, g24, g25, g26, g27, g28, g29, g30, g31, g32, g33]))])) H := hP
      have hD : va_D A (bX11 a4 uq kq q_q ([(a0, .inr (9, [.int o57.1, .int o57.2.1, .int o57.2.2, .ref a4, g8, g9, g10, g11, g12, g13, g14, g15, g16, g17, g18, g19, g20, g21, g22, g23, g24, g25, g26, g27, g28, g29, g30, g31, g32, g33]))])) := hD
      obtain rfl := Option.some.inj h
      have hP9 := hP.sub (ws' := ((a0, .inr (9, [.int o57.1, .int o57.2.1, .int o57.2.2, .ref a4, g8, g9, g10, g11, g12, g13, g14, g15, g16, g17, g18, g19, g20, g21, g22, g23, g24, g25, g26, g27, g28, g29, g30, g31, g32, g33])) :: bX11 a4 uq kq q_q [])) [15, 0, 1, 2, 3, 4, 5, 6, 7, 8, 9, 10, 11, 12, 13, 14] rfl
      have hD9 := hD.sub (ws' := ((a0, .inr (9, [.int o57.1, .int o57.2.1, .int o57.2.2, .ref a4, g8, g9, g10, g11, g12, g13, g14, g15, g16, g17, g18, g19, g20, g21, g22, g23, g24, g25, g26, g27, g28, g29, g30, g31, g32, g33])) :: bX11 a4 uq kq q_q [])) [15, 0, 1, 2, 3, 4, 5, 6, 7, 8, 9, 10, 11, 12, 13, 14] (by decide) rfl
      have hK9 := hK.sub (tys' := []) [] rfl
      rw [hQQ]
      exact W.iret (v := (-1 : Int32)) hx hb hr (fun t ht hW => ⟨⟨(-1 : Int32), (), rfl, rfl, by rw [ht]; exact hP9, va_K.moved hW.alike hK9, hD9⟩, hS.F ht⟩) hS.2.2 dX12_worth_60
    refine lv_if_eq (tgt := 55) hx hb dX12_worth_27 (by decide) (fun c27 => ?_) (fun c27 => ?_)
    · have h := (if_pos c27).symm.trans h
      exact J55  H _ ls h  hP hD hS (lv_sub hl [0] rfl)
    · have h := (if_neg c27).symm.trans h
      refine lv_iload_n hx hb dX12_worth_30 rfl (lv_at hl 3 rfl) ?_
      refine lv_iload_n hx hb dX12_worth_31 rfl (lv_at hl 2 rfl) ?_
      refine lv_sipush (v := 999) hx hb dX12_worth_32 (by decide) ?_
      obtain ⟨o35, eo35⟩ : ∃ o, o = f_X12_in k3 k2 (999 : Int32) := ⟨_, rfl⟩
      have h := nm_of h o35 eo35
      refine cl_i (wc := []) (wr := ((a0, .inr (9, [.int 0, .int m_t.2.1, .int m_t.2.2, .ref a4, g8, g9, g10, g11, g12, g13, g14, g15, g16, g17, g18, g19, g20, g21, g22, g23, g24, g25, g26, g27, g28, g29, g30, g31, g32, g33])) :: bX11 a4 uq kq q_q [])) (va_runS (As := [.int k3, .int k2, .int 999]) (rest := []) ⟨hx, hb, hml, hown, hts⟩ (kfX12_in l dC dI k3 k2 (999 : Int32) H.size o35 eo35.symm) (va_cwS 3 hts gfX12_worth_1 rfl rfl rfl (by decide +kernel) ⟨(Nat.le_of_ble_eq_true rfl), (Nat.le_of_ble_eq_true rfl)⟩) (PS (hP.sub (ws' := []) [] rfl) (hK.sub (tys' := ([])) [] rfl) (hD.sub (ws' := []) [] (by decide) rfl) hN) rfl rfl hl.1 rfl (lv_room (Nat.le_of_ble_eq_true rfl)) dX12_worth_35 ⟨(Nat.le_of_ble_eq_true rfl), (Nat.le_of_ble_eq_true rfl)⟩) hP hD hK hS hA [] [0, 1, 2, 3, 4, 5, 6, 7, 8, 9, 10, 11, 12, 13, 14, 15] rfl rfl (by decide) (by decide) (fun r35 _ H locs hw hP hD _ hS => ?_)
      obtain ⟨hw, br35⟩ := hw
      obtain rfl := hw.symm
      have hP : va_P (dC, dI) vwCl ((a0, .inr (9, [.int 0, .int m_t.2.1, .int m_t.2.2, .ref a4, g8, g9, g10, g11, g12, g13, g14, g15, g16, g17, g18, g19, g20, g21, g22, g23, g24, g25, g26, g27, g28, g29, g30, g31, g32, g33])) :: bX11 a4 uq kq q_q []) H := hP
      have hD : va_D A ((a0, .inr (9, [.int 0, .int m_t.2.1, .int m_t.2.2, .ref a4, g8, g9, g10, g11, g12, g13, g14, g15, g16, g17, g18, g19, g20, g21, g22, g23, g24, g25, g26, g27, g28, g29, g30, g31, g32, g33])) :: bX11 a4 uq kq q_q []) := hD
      refine lv_if_eq (tgt := 55) hx hb dX12_worth_38 (by decide) (fun c38 => ?_) (fun c38 => ?_)
      · have h := (if_pos c38).symm.trans h
        exact J55  H _ ls h  hP hD hS (lv_sub hl [0] rfl)
      · have h := (if_neg c38).symm.trans h
        refine lv_aload_n hx hb dX12_worth_41 rfl (lv_at hl 0 rfl) ?_
        refine lv_aload_n hx hb dX12_worth_42 rfl (lv_at hl 0 rfl) ?_
        refine lv_iload_n hx hb dX12_worth_43 rfl (lv_at hl 1 rfl) ?_
        refine lv_iload_n hx hb dX12_worth_44 rfl (lv_at hl 2 rfl) ?_
        refine lv_iload_n hx hb dX12_worth_45 rfl (lv_at hl 3 rfl) ?_
        obtain ⟨o46, eo46, h⟩ := bd_of h
        refine cl_i (wc := ((a0, .inr (9, [.int 0, .int m_t.2.1, .int m_t.2.2, .ref a4, g8, g9, g10, g11, g12, g13, g14, g15, g16, g17, g18, g19, g20, g21, g22, g23, g24, g25, g26, g27, g28, g29, g30, g31, g32, g33])) :: bX11 a4 uq kq q_q [])) (wr := []) (va_runV (As := [.int k1, .int k2, .int k3]) (rest := [.ref a0]) ⟨hx, hb, hml, hown, hts⟩ (kfX12_keeps l dC dI a0 k1 k2 k3 a4 uq kq (.int 0) (.int m_t.2.1) (.int m_t.2.2) (g8) (g9) (g10) (g11) (g12) (g13) (g14) (g15) (g16) (g17) (g18) (g19) (g20) (g21) (g22) (g23) (g24) (g25) (g26) (g27) (g28) (g29) (g30) (g31) (g32) (g33) q_q H.size o46 eo46) (cwV 3 hts gfX12_worth_3 rfl rfl rfl (by decide +kernel) ⟨(Nat.le_of_ble_eq_true rfl), (Nat.le_of_ble_eq_true rfl)⟩) (PV (hP.sub (ws' := ((a0, .inr (9, [.int 0, .int m_t.2.1, .int m_t.2.2, .ref a4, g8, g9, g10, g11, g12, g13, g14, g15, g16, g17, g18, g19, g20, g21, g22, g23, g24, g25, g26, g27, g28, g29, g30, g31, g32, g33])) :: bX11 a4 uq kq q_q [])) [0, 1, 2, 3, 4, 5, 6, 7, 8, 9, 10, 11, 12, 13, 14, 15] rfl) (hK.sub (tys' := (tX11 kq ([]))) [0, 1, 2, 3, 4, 5, 6, 7, 8, 9, 10, 11, 12, 13] rfl) (hD.sub (ws' := ((a0, .inr (9, [.int 0, .int m_t.2.1, .int m_t.2.2, .ref a4, g8, g9, g10, g11, g12, g13, g14, g15, g16, g17, g18, g19, g20, g21, g22, g23, g24, g25, g26, g27, g28, g29, g30, g31, g32, g33])) :: bX11 a4 uq kq q_q [])) [0, 1, 2, 3, 4, 5, 6, 7, 8, 9, 10, 11, 12, 13, 14, 15] (by decide) rfl) hN 0 rfl rfl) rfl rfl hl.1 rfl (lv_room (Nat.le_of_ble_eq_true rfl)) dX12_worth_46 ⟨(Nat.le_of_ble_eq_true rfl), (Nat.le_of_ble_eq_true rfl)⟩) hP hD hK hS hA [0, 1, 2, 3, 4, 5, 6, 7, 8, 9, 10, 11, 12, 13, 14, 15] [] rfl rfl (by decide) (by decide) (fun r46 _ H locs hw hP hD _ hS => ?_)
        obtain rfl := hw.symm
        have hP : va_P (dC, dI) vwCl ((a0, .inr (9, [.int 0, .int m_t.2.1, .int m_t.2.2, .ref a4, g8, g9, g10, g11, g12, g13, g14, g15, g16, g17, g18, g19, g20, g21, g22, g23, g24, g25, g26, g27, g28, g29, g30, g31, g32, g33])) :: bX11 a4 uq kq q_q []) H := hP
        have hD : va_D A ((a0, .inr (9, [.int 0, .int m_t.2.1, .int m_t.2.2, .ref a4, g8, g9, g10, g11, g12, g13, g14, g15, g16, g17, g18, g19, g20, g21, g22, g23, g24, g25, g26, g27, g28, g29, g30, g31, g32, g33])) :: bX11 a4 uq kq q_q []) := hD
        obtain ⟨o49, eo49⟩ : ∃ o, o = f_X12_good o46 ((0 : Int32), m_t.2) := ⟨_, rfl⟩
        have h := nm_of h o49 eo49
        refine cl_i (wc := ([(a0, .inr (9, [.int 0, .int m_t.2.1, .int m_t.2.2, .ref a4, g8, g9, g10, g11, g12, g13, g14, g15, g16, g17, g18, g19, g20, g21, g22, g23, g24, g25, g26, g27, g28, g29, g30, g31, g32, g33]))])) (wr := (bX11 a4 uq kq q_q [])) (va_runV (As := [.int o46]) (rest := []) ⟨hx, hb, hml, hown, hts⟩ (kfX12_good l dC dI a0 o46 ((0 : Int32), m_t.2) (.ref a4) (g8) (g9) (g10) (g11) (g12) (g13) (g14) (g15) (g16) (g17) (g18) (g19) (g20) (g21) (g22) (g23) (g24) (g25) (g26) (g27) (g28) (g29) (g30) (g31) (g32) (g33) H.size o49 eo49.symm) (cwV 1 hts gfX12_worth_4 rfl rfl rfl (by decide +kernel) ⟨(Nat.le_of_ble_eq_true rfl), (Nat.le_of_ble_eq_true rfl)⟩) (PV (hP.sub (ws' := ([(a0, .inr (9, [.int 0, .int m_t.2.1, .int m_t.2.2, .ref a4, g8, g9, g10, g11, g12, g13, g14, g15, g16, g17, g18, g19, g20, g21, g22, g23, g24, g25, g26, g27, g28, g29, g30, g31, g32, g33]))])) [0] rfl) (hK.sub (tys' := ([])) [] rfl) (hD.sub (ws' := ([(a0, .inr (9, [.int 0, .int m_t.2.1, .int m_t.2.2, .ref a4, g8, g9, g10, g11, g12, g13, g14, g15, g16, g17, g18, g19, g20, g21, g22, g23, g24, g25, g26, g27, g28, g29, g30, g31, g32, g33]))])) [0] (by decide) rfl) hN 0 rfl rfl) rfl rfl hl.1 rfl (lv_room (Nat.le_of_ble_eq_true rfl)) dX12_worth_49 ⟨(Nat.le_of_ble_eq_true rfl), (Nat.le_of_ble_eq_true rfl)⟩) hP hD hK hS hA [0] [1, 2, 3, 4, 5, 6, 7, 8, 9, 10, 11, 12, 13, 14, 15] rfl rfl (by decide) (by decide) (fun r49 _ H locs hw hP hD _ hS => ?_)
        obtain rfl := hw
        have hP : va_P (dC, dI) vwCl (bX11 a4 uq kq q_q ([(a0, .inr (9, [.int o49.2.1, .int o49.2.2.1, .int o49.2.2.2, .ref a4, g8, g9, g10, g11, g12, g13, g14, g15, g16, g17, g18, g19, g20, g21, g22, g23, g24, g25, g26, g27, g28, g29, g30, g31, g32, g33]))])) H := hP
        have hD : va_D A (bX11 a4 uq kq q_q ([(a0, .inr (9, [.int o49.2.1, .int o49.2.2.1, .int o49.2.2.2, .ref a4, g8, g9, g10, g11, g12, g13, g14, g15, g16, g17, g18, g19, g20, g21, g22, g23, g24, g25, g26, g27, g28, g29, g30, g31, g32, g33]))])) := hD
        refine lv_goto (tgt := 60) hx hb dX12_worth_52 (by decide) ?_
        obtain rfl := Option.some.inj h
        have hP9 := hP.sub (ws' := ((a0, .inr (9, [.int o49.2.1, .int o49.2.2.1, .int o49.2.2.2, .ref a4, g8, g9, g10, g11, g12, g13, g14, g15, g16, g17, g18, g19, g20, g21, g22, g23, g24, g25, g26, g27, g28, g29, g30, g31, g32, g33])) :: bX11 a4 uq kq q_q [])) [15, 0, 1, 2, 3, 4, 5, 6, 7, 8, 9, 10, 11, 12, 13, 14] rfl
        have hD9 := hD.sub (ws' := ((a0, .inr (9, [.int o49.2.1, .int o49.2.2.1, .int o49.2.2.2, .ref a4, g8, g9, g10, g11, g12, g13, g14, g15, g16, g17, g18, g19, g20, g21, g22, g23, g24, g25, g26, g27, g28, g29, g30, g31, g32, g33])) :: bX11 a4 uq kq q_q [])) [15, 0, 1, 2, 3, 4, 5, 6, 7, 8, 9, 10, 11, 12, 13, 14] (by decide) rfl
        have hK9 := hK.sub (tys' := []) [] rfl
        rw [hQQ]
        exact W.iret (v := o49.1) hx hb hr (fun t ht hW => ⟨⟨o49.1, (), rfl, rfl, by rw [ht]; exact hP9, va_K.moved hW.alike hK9, hD9⟩, hS.F ht⟩) hS.2.2 dX12_worth_60
  · have h := (if_pos c10).symm.trans h
    refine lv_aload_n hx hb dX12_worth_13 rfl (lv_at hl 0 rfl) ?_
    refine lv_iconst (v := 1) hx hb dX12_worth_14 (by decide) ?_
    obtain ⟨o15, eo15⟩ : ∃ o, o = f_X12_refused (1 : Int32) ((0 : Int32), m_t.2) := ⟨_, rfl⟩
    have h := nm_of h o15 eo15
    refine cl_i (wc := ([(a0, .inr (9, [.int 0, .int m_t.2.1, .int m_t.2.2, .ref a4, g8, g9, g10, g11, g12, g13, g14, g15, g16, g17, g18, g19, g20, g21, g22, g23, g24, g25, g26, g27, g28, g29, g30, g31, g32, g33]))])) (wr := (bX11 a4 uq kq q_q [])) (va_runV (As := [.int 1]) (rest := []) ⟨hx, hb, hml, hown, hts⟩ (kfX12_refused l dC dI a0 (1 : Int32) ((0 : Int32), m_t.2) (.ref a4) (g8) (g9) (g10) (g11) (g12) (g13) (g14) (g15) (g16) (g17) (g18) (g19) (g20) (g21) (g22) (g23) (g24) (g25) (g26) (g27) (g28) (g29) (g30) (g31) (g32) (g33) H.size o15 eo15.symm) (cwV 1 hts gfX12_worth_2 rfl rfl rfl (by decide +kernel) ⟨(Nat.le_of_ble_eq_true rfl), (Nat.le_of_ble_eq_true rfl)⟩) (PV (hP.sub (ws' := ([(a0, .inr (9, [.int 0, .int m_t.2.1, .int m_t.2.2, .ref a4, g8, g9, g10, g11, g12, g13, g14, g15, g16, g17, g18, g19, g20, g21, g22, g23, g24, g25, g26, g27, g28, g29, g30, g31, g32, g33]))])) [0] rfl) (hK.sub (tys' := ([])) [] rfl) (hD.sub (ws' := ([(a0, .inr (9, [.int 0, .int m_t.2.1, .int m_t.2.2, .ref a4, g8, g9, g10, g11, g12, g13, g14, g15, g16, g17, g18, g19, g20, g21, g22, g23, g24, g25, g26, g27, g28, g29, g30, g31, g32, g33]))])) [0] (by decide) rfl) hN 0 rfl rfl) rfl rfl hl.1 rfl (lv_room (Nat.le_of_ble_eq_true rfl)) dX12_worth_15 ⟨(Nat.le_of_ble_eq_true rfl), (Nat.le_of_ble_eq_true rfl)⟩) hP hD hK hS hA [0] [1, 2, 3, 4, 5, 6, 7, 8, 9, 10, 11, 12, 13, 14, 15] rfl rfl (by decide) (by decide) (fun r15 _ H locs hw hP hD _ hS => ?_)
    obtain rfl := hw
    have hP : va_P (dC, dI) vwCl (bX11 a4 uq kq q_q ([(a0, .inr (9, [.int o15.1, .int o15.2.1, .int o15.2.2, .ref a4, g8, g9, g10, g11, g12, g13, g14, g15, g16, g17, g18, g19, g20, g21, g22, g23, g24, g25, g26, g27, g28, g29, g30, g31, g32, g33]))])) H := hP
    have hD : va_D A (bX11 a4 uq kq q_q ([(a0, .inr (9, [.int o15.1, .int o15.2.1, .int o15.2.2, .ref a4, g8, g9, g10, g11, g12, g13, g14, g15, g16, g17, g18, g19, g20, g21, g22, g23, g24, g25, g26, g27, g28, g29, g30, g31, g32, g33]))])) := hD
    obtain rfl := Option.some.inj h
    have hP9 := hP.sub (ws' := ((a0, .inr (9, [.int o15.1, .int o15.2.1, .int o15.2.2, .ref a4, g8, g9, g10, g11, g12, g13, g14, g15, g16, g17, g18, g19, g20, g21, g22, g23, g24, g25, g26, g27, g28, g29, g30, g31, g32, g33])) :: bX11 a4 uq kq q_q [])) [15, 0, 1, 2, 3, 4, 5, 6, 7, 8, 9, 10, 11, 12, 13, 14] rfl
    have hD9 := hD.sub (ws' := ((a0, .inr (9, [.int o15.1, .int o15.2.1, .int o15.2.2, .ref a4, g8, g9, g10, g11, g12, g13, g14, g15, g16, g17, g18, g19, g20, g21, g22, g23, g24, g25, g26, g27, g28, g29, g30, g31, g32, g33])) :: bX11 a4 uq kq q_q [])) [15, 0, 1, 2, 3, 4, 5, 6, 7, 8, 9, 10, 11, 12, 13, 14] (by decide) rfl
    have hK9 := hK.sub (tys' := []) [] rfl
    rw [hQQ]
    exact W.iret (v := (-1 : Int32)) hx hb hr (fun t ht hW => ⟨⟨(-1 : Int32), (), rfl, rfl, by rw [ht]; exact hP9, va_K.moved hW.alike hK9, hD9⟩, hS.F ht⟩) hS.2.2 dX12_worth_18
theorem dX12_refusesLoad_0 : decode cX12_refusesLoad 0 = .ok (.aload_n 0, 1) := by decide +kernel
theorem dX12_refusesLoad_1 : decode cX12_refusesLoad 1 = .ok (.getfield 299, 3) := by decide +kernel
theorem dX12_refusesLoad_11 : decode cX12_refusesLoad 11 = .ok (.iload_n 1, 1) := by decide +kernel
theorem dX12_refusesLoad_12 : decode cX12_refusesLoad 12 = .ok (.iconst 0, 1) := by decide +kernel
theorem dX12_refusesLoad_13 : decode cX12_refusesLoad 13 = .ok (.bipush 6, 2) := by decide +kernel
theorem dX12_refusesLoad_15 : decode cX12_refusesLoad 15 = .ok (.invokestatic 115, 3) := by decide +kernel
theorem dX12_refusesLoad_18 : decode cX12_refusesLoad 18 = .ok (.ifCond .eq 7, 3) := by decide +kernel
theorem dX12_refusesLoad_21 : decode cX12_refusesLoad 21 = .ok (.iconst 0, 1) := by decide +kernel
theorem dX12_refusesLoad_22 : decode cX12_refusesLoad 22 = .ok (.goto 4, 3) := by decide +kernel
theorem dX12_refusesLoad_25 : decode cX12_refusesLoad 25 = .ok (.iconst 2, 1) := by decide +kernel
theorem dX12_refusesLoad_26 : decode cX12_refusesLoad 26 = .ok (.ireturn, 1) := by decide +kernel
theorem dX12_refusesLoad_4 : decode cX12_refusesLoad 4 = .ok (.ifnonnull 7, 3) := by decide +kernel
def vfX12_refusesLoad : List Cond := .code yX12_refusesLoad cX12_refusesLoad 2 (some .int) :: ([.fieldLink RX12 299 "HookPierModel" "pier" "LHookPierModel$Pier;", .methodLink RX12 115 yX12_in, .static yX12_in, .initialized RX12, .code yX12_in cX12_in 3 (some .boolean)] ++ wsX120)
theorem ifX12_refusesLoad_X12 : ∀ w ∈ wsX120, w ∈ vfX12_refusesLoad := fun _ h => List.mem_cons_of_mem _ (List.mem_append_right _ h)
set_option maxRecDepth 20000 in
theorem gfX12_refusesLoad_0 : GoodIn vfX12_refusesLoad (va_wsS RX12 115 yX12_in vfX12_in) := goodIn_app (goodIn_r [.methodLink RX12 115 yX12_in, .static yX12_in, .initialized RX12] [2, 3, 4] (by decide +kernel) (by decide +kernel)) (goodIn_r (.code yX12_in cX12_in 3 (some .boolean) :: []) [5] (by decide +kernel) (by decide +kernel) : GoodIn vfX12_refusesLoad (.code yX12_in cX12_in 3 (some .boolean) :: []))
set_option maxHeartbeats 2000000 in
set_option maxRecDepth 100000 in
theorem kfX12_refusesLoad (l : Launch) (dC : Nat → ClassId) (dI : Nat → Nat → Nat) (a0 : Nat) (k1 : Int32) (g2 : Value) (g3 : Value) (g4 : Value) (a5 : Nat) (g6 : Value) (g7 : Value) (g8 : Value) (g9 : Value) (g10 : Value) (g11 : Value) (g12 : Value) (g13 : Value) (g14 : Value) (g15 : Value) (g16 : Value) (g17 : Value) (g18 : Value) (g19 : Value) (g20 : Value) (g21 : Value) (g22 : Value) (g23 : Value) (g24 : Value) (g25 : Value) (g26 : Value) (g27 : Value) (g28 : Value) (g29 : Value) (g30 : Value) (g31 : Value) (sz : Nat) (out : Int32) (h : f_X12_refusesLoad k1 = out) : Met l yX12_refusesLoad vfX12_refusesLoad ({ frames := 1, cells := 0, slots := 0, locals := 22 }) (PC (dC, dI) [.ref a0, .int k1] sz ([(a0, .inr (9, [g2, g3, g4, .ref a5, g6, g7, g8, g9, g10, g11, g12, g13, g14, g15, g16, g17, g18, g19, g20, g21, g22, g23, g24, g25, g26, g27, g28, g29, g30, g31]))]) ([])) (va_Qi (S := Unit) (fun (r : Int32) _ => r = out) (fun _ t => BC (dC, dI) (va_A ([(a0, .inr (9, [g2, g3, g4, .ref a5, g6, g7, g8, g9, g10, g11, g12, g13, g14, g15, g16, g17, g18, g19, g20, g21, g22, g23, g24, g25, g26, g27, g28, g29, g30, g31]))]) sz) ([(a0, .inr (9, [g2, g3, g4, .ref a5, g6, g7, g8, g9, g10, g11, g12, g13, g14, g15, g16, g17, g18, g19, g20, g21, g22, g23, g24, g25, g26, g27, g28, g29, g30, g31]))]) [] t) (va_A ([(a0, .inr (9, [g2, g3, g4, .ref a5, g6, g7, g8, g9, g10, g11, g12, g13, g14, g15, g16, g17, g18, g19, g20, g21, g22, g23, g24, g25, g26, g27, g28, g29, g30, g31]))]) sz)) 0 0 (va_A ([(a0, .inr (9, [g2, g3, g4, .ref a5, g6, g7, g8, g9, g10, g11, g12, g13, g14, g15, g16, g17, g18, g19, g20, g21, g22, g23, g24, g25, g26, g27, g28, g29, g30, g31]))]) sz) := by
  refine Met.ofW (cc := cX12_refusesLoad) (maxL := 2) (ret := (some .int)) (by decide) rfl ?_
  intro p e s m args below meth c s₁ B0 hml hv
  obtain ⟨rfl, hsz, hP, hK, hD0, hN⟩ := hv
  have hx := B0.exec
  have hb := B0.bytes
  have hr := B0.returns
  have hts := atoms_spec (ws := vfX12_refusesLoad) B0.pre
  have hown : s.vm.findClass RX12 = some m.cls := findClass_of_methodNamed B0.named
  have hlocks := B0.notSynchronized
  subst hsz
  have hD := hD0.self (sz := s.heap.size)
  generalize hAe : va_A ([(a0, .inr (9, [g2, g3, g4, .ref a5, g6, g7, g8, g9, g10, g11, g12, g13, g14, g15, g16, g17, g18, g19, g20, g21, g22, g23, g24, g25, g26, g27, g28, g29, g30, g31]))]) s.heap.size = A at hD ⊢
  have hA : ∀ q : Nat, s.heap.size ≤ q → A q := fun q h => by rw [← hAe]; exact Or.inr h
  have hS : va_S A s.heap s.heap [] := va_S.rf
  have hP : va_P (dC, dI) vwCl ([(a0, .inr (9, [g2, g3, g4, .ref a5, g6, g7, g8, g9, g10, g11, g12, g13, g14, g15, g16, g17, g18, g19, g20, g21, g22, g23, g24, g25, g26, g27, g28, g29, g30, g31]))]) s.heap := hP
  have hl := lv_entry ([.ref a0, .int k1]) (n := 2) (Nat.le_of_ble_eq_true rfl)
  rw [lg_entry_eq]
  generalize (lg_sl ([.ref a0, .int k1]) ++ List.replicate (2 - (lg_sl ([.ref a0, .int k1])).length) Slot.unset).toArray = ls at hl ⊢
  have hl : lv_has ls 2 [(0, .ref a0), (1, .int k1)] := hl
  refine W_q (fun QQ hQQ => ?_)
  rw [f_X12_refusesLoad] at h
  refine lv_aload_n hx hb dX12_refusesLoad_0 rfl (lv_at hl 0 rfl) ?_
  refine va_get (D := (dC, dI)) (ci := 9) (v := .ref a5) (C := RX12) (T := TX12) (N := 30) hx hb hts ifX12_refusesLoad_X12 hown hK hP 0 rfl rfl 3 (by decide) (hts (.fieldLink RX12 299 "HookPierModel" "pier" "LHookPierModel$Pier;") (List.mem_of_getElem? (i := 1) rfl)) (fun _ h9 => h9) rfl dX12_refusesLoad_1 ?_
  refine lv_ifnonnull (tgt := 11) hx hb dX12_refusesLoad_4 (by decide) ?_
  refine lv_iload_n hx hb dX12_refusesLoad_11 rfl (lv_at hl 1 rfl) ?_
  refine lv_iconst (v := 0) hx hb dX12_refusesLoad_12 (by decide) ?_
  refine lv_bipush (v := 6) hx hb dX12_refusesLoad_13 (by decide) ?_
  obtain ⟨o15, eo15⟩ : ∃ o, o = f_X12_in k1 (0 : Int32) (6 : Int32) := ⟨_, rfl⟩
  have h := nm_of h o15 eo15
  refine cl_i (wc := []) (wr := ([(a0, .inr (9, [g2, g3, g4, .ref a5, g6, g7, g8, g9, g10, g11, g12, g13, g14, g15, g16, g17, g18, g19, g20, g21, g22, g23, g24, g25, g26, g27, g28, g29, g30, g31]))])) (va_runS (As := [.int k1, .int 0, .int 6]) (rest := []) ⟨hx, hb, hml, hown, hts⟩ (kfX12_in l dC dI k1 (0 : Int32) (6 : Int32) s.heap.size o15 eo15.symm) (va_cwS 3 hts gfX12_refusesLoad_0 rfl rfl rfl (by decide +kernel) ⟨(Nat.le_of_ble_eq_true rfl), (Nat.le_of_ble_eq_true rfl)⟩) (PS (hP.sub (ws' := []) [] rfl) (hK.sub (tys' := ([])) [] rfl) (hD.sub (ws' := []) [] (by decide) rfl) hN) rfl rfl hl.1 rfl (lv_room (Nat.le_of_ble_eq_true rfl)) dX12_refusesLoad_15 ⟨(Nat.le_of_ble_eq_true rfl), (Nat.le_of_ble_eq_true rfl)⟩) hP hD hK hS hA [] [0] rfl rfl (by decide) (by decide) (fun r15 _ H locs hw hP hD _ hS => ?_)
  obtain ⟨hw, br15⟩ := hw
  obtain rfl := hw.symm
  have hP : va_P (dC, dI) vwCl ([(a0, .inr (9, [g2, g3, g4, .ref a5, g6, g7, g8, g9, g10, g11, g12, g13, g14, g15, g16, g17, g18, g19, g20, g21, g22, g23, g24, g25, g26, g27, g28, g29, g30, g31]))]) H := hP
  have hD : va_D A ([(a0, .inr (9, [g2, g3, g4, .ref a5, g6, g7, g8, g9, g10, g11, g12, g13, g14, g15, g16, g17, g18, g19, g20, g21, g22, g23, g24, g25, g26, g27, g28, g29, g30, g31]))]) := hD
  refine lv_if_eq (tgt := 25) hx hb dX12_refusesLoad_18 (by decide) (fun c18 => ?_) (fun c18 => ?_)
  · have h := (if_pos c18).symm.trans h
    refine lv_iconst (v := 2) hx hb dX12_refusesLoad_25 (by decide) ?_
    obtain rfl := h
    have hP9 := hP.sub (ws' := ([(a0, .inr (9, [g2, g3, g4, .ref a5, g6, g7, g8, g9, g10, g11, g12, g13, g14, g15, g16, g17, g18, g19, g20, g21, g22, g23, g24, g25, g26, g27, g28, g29, g30, g31]))])) [0] rfl
    have hD9 := hD.sub (ws' := ([(a0, .inr (9, [g2, g3, g4, .ref a5, g6, g7, g8, g9, g10, g11, g12, g13, g14, g15, g16, g17, g18, g19, g20, g21, g22, g23, g24, g25, g26, g27, g28, g29, g30, g31]))])) [0] (by decide) rfl
    have hK9 := hK.sub (tys' := []) [] rfl
    rw [hQQ]
    exact W.iret (v := (2 : Int32)) hx hb hr (fun t ht hW => ⟨⟨(2 : Int32), (), rfl, rfl, by rw [ht]; exact hP9, va_K.moved hW.alike hK9, hD9⟩, hS.F ht⟩) hS.2.2 dX12_refusesLoad_26
  · have h := (if_neg c18).symm.trans h
    refine lv_iconst (v := 0) hx hb dX12_refusesLoad_21 (by decide) ?_
    refine lv_goto (tgt := 26) hx hb dX12_refusesLoad_22 (by decide) ?_
    obtain rfl := h
    have hP9 := hP.sub (ws' := ([(a0, .inr (9, [g2, g3, g4, .ref a5, g6, g7, g8, g9, g10, g11, g12, g13, g14, g15, g16, g17, g18, g19, g20, g21, g22, g23, g24, g25, g26, g27, g28, g29, g30, g31]))])) [0] rfl
    have hD9 := hD.sub (ws' := ([(a0, .inr (9, [g2, g3, g4, .ref a5, g6, g7, g8, g9, g10, g11, g12, g13, g14, g15, g16, g17, g18, g19, g20, g21, g22, g23, g24, g25, g26, g27, g28, g29, g30, g31]))])) [0] (by decide) rfl
    have hK9 := hK.sub (tys' := []) [] rfl
    rw [hQQ]
    exact W.iret (v := (0 : Int32)) hx hb hr (fun t ht hW => ⟨⟨(0 : Int32), (), rfl, rfl, by rw [ht]; exact hP9, va_K.moved hW.alike hK9, hD9⟩, hS.F ht⟩) hS.2.2 dX12_refusesLoad_26
theorem dX12_loads_0 : decode cX12_loads 0 = .ok (.aload_n 0, 1) := by decide +kernel
theorem dX12_loads_1 : decode cX12_loads 1 = .ok (.iconst 0, 1) := by decide +kernel
theorem dX12_loads_10 : decode cX12_loads 10 = .ok (.iconst 1, 1) := by decide +kernel
theorem dX12_loads_100 : decode cX12_loads 100 = .ok (.aload_n 0, 1) := by decide +kernel
theorem dX12_loads_101 : decode cX12_loads 101 = .ok (.iload 5, 2) := by decide +kernel
theorem dX12_loads_103 : decode cX12_loads 103 = .ok (.invokevirtual 442, 3) := by decide +kernel
theorem dX12_loads_106 : decode cX12_loads 106 = .ok (.goto 4, 3) := by decide +kernel
theorem dX12_loads_109 : decode cX12_loads 109 = .ok (.iconst 0, 1) := by decide +kernel
theorem dX12_loads_11 : decode cX12_loads 11 = .ok (.istore_n 2, 1) := by decide +kernel
theorem dX12_loads_110 : decode cX12_loads 110 = .ok (.iadd, 1) := by decide +kernel
theorem dX12_loads_111 : decode cX12_loads 111 = .ok (.istore_n 3, 1) := by decide +kernel
theorem dX12_loads_112 : decode cX12_loads 112 = .ok (.iinc 5 1, 3) := by decide +kernel
theorem dX12_loads_115 : decode cX12_loads 115 = .ok (.goto (-70), 3) := by decide +kernel
theorem dX12_loads_118 : decode cX12_loads 118 = .ok (.iload 4, 2) := by decide +kernel
theorem dX12_loads_12 : decode cX12_loads 12 = .ok (.iload_n 2, 1) := by decide +kernel
theorem dX12_loads_120 : decode cX12_loads 120 = .ok (.ifCond .eq 46, 3) := by decide +kernel
theorem dX12_loads_123 : decode cX12_loads 123 = .ok (.iload_n 3, 1) := by decide +kernel
theorem dX12_loads_124 : decode cX12_loads 124 = .ok (.aload_n 0, 1) := by decide +kernel
theorem dX12_loads_125 : decode cX12_loads 125 = .ok (.getfield 439, 3) := by decide +kernel
theorem dX12_loads_128 : decode cX12_loads 128 = .ok (.if_icmp .lt 38, 3) := by decide +kernel
theorem dX12_loads_13 : decode cX12_loads 13 = .ok (.iconst 1, 1) := by decide +kernel
theorem dX12_loads_131 : decode cX12_loads 131 = .ok (.iload_n 3, 1) := by decide +kernel
theorem dX12_loads_132 : decode cX12_loads 132 = .ok (.aload_n 0, 1) := by decide +kernel
theorem dX12_loads_133 : decode cX12_loads 133 = .ok (.getfield 439, 3) := by decide +kernel
theorem dX12_loads_136 : decode cX12_loads 136 = .ok (.if_icmp .ne 20, 3) := by decide +kernel
theorem dX12_loads_139 : decode cX12_loads 139 = .ok (.iload_n 2, 1) := by decide +kernel
theorem dX12_loads_14 : decode cX12_loads 14 = .ok (.aload_n 0, 1) := by decide +kernel
theorem dX12_loads_140 : decode cX12_loads 140 = .ok (.invokestatic 411, 3) := by decide +kernel
theorem dX12_loads_143 : decode cX12_loads 143 = .ok (.aload_n 0, 1) := by decide +kernel
theorem dX12_loads_144 : decode cX12_loads 144 = .ok (.getfield 436, 3) := by decide +kernel
theorem dX12_loads_147 : decode cX12_loads 147 = .ok (.invokestatic 411, 3) := by decide +kernel
theorem dX12_loads_15 : decode cX12_loads 15 = .ok (.getfield 299, 3) := by decide +kernel
theorem dX12_loads_150 : decode cX12_loads 150 = .ok (.if_icmp .lt 6, 3) := by decide +kernel
theorem dX12_loads_153 : decode cX12_loads 153 = .ok (.goto 13, 3) := by decide +kernel
theorem dX12_loads_156 : decode cX12_loads 156 = .ok (.aload_n 0, 1) := by decide +kernel
theorem dX12_loads_157 : decode cX12_loads 157 = .ok (.iload_n 2, 1) := by decide +kernel
theorem dX12_loads_158 : decode cX12_loads 158 = .ok (.putfield 436, 3) := by decide +kernel
theorem dX12_loads_161 : decode cX12_loads 161 = .ok (.aload_n 0, 1) := by decide +kernel
theorem dX12_loads_162 : decode cX12_loads 162 = .ok (.iload_n 3, 1) := by decide +kernel
theorem dX12_loads_163 : decode cX12_loads 163 = .ok (.putfield 439, 3) := by decide +kernel
theorem dX12_loads_166 : decode cX12_loads 166 = .ok (.iinc 2 1, 3) := by decide +kernel
theorem dX12_loads_169 : decode cX12_loads 169 = .ok (.goto (-157), 3) := by decide +kernel
theorem dX12_loads_172 : decode cX12_loads 172 = .ok (.return_, 1) := by decide +kernel
theorem dX12_loads_18 : decode cX12_loads 18 = .ok (.getfield 231, 3) := by decide +kernel
theorem dX12_loads_2 : decode cX12_loads 2 = .ok (.putfield 436, 3) := by decide +kernel
theorem dX12_loads_21 : decode cX12_loads 21 = .ok (.ishl, 1) := by decide +kernel
theorem dX12_loads_22 : decode cX12_loads 22 = .ok (.if_icmp .ge 150, 3) := by decide +kernel
theorem dX12_loads_25 : decode cX12_loads 25 = .ok (.iconst 0, 1) := by decide +kernel
theorem dX12_loads_26 : decode cX12_loads 26 = .ok (.istore_n 3, 1) := by decide +kernel
theorem dX12_loads_27 : decode cX12_loads 27 = .ok (.iload_n 2, 1) := by decide +kernel
theorem dX12_loads_28 : decode cX12_loads 28 = .ok (.invokestatic 411, 3) := by decide +kernel
theorem dX12_loads_31 : decode cX12_loads 31 = .ok (.iload_n 1, 1) := by decide +kernel
theorem dX12_loads_32 : decode cX12_loads 32 = .ok (.if_icmp .gt 7, 3) := by decide +kernel
theorem dX12_loads_35 : decode cX12_loads 35 = .ok (.iconst 1, 1) := by decide +kernel
theorem dX12_loads_36 : decode cX12_loads 36 = .ok (.goto 4, 3) := by decide +kernel
theorem dX12_loads_39 : decode cX12_loads 39 = .ok (.iconst 0, 1) := by decide +kernel
theorem dX12_loads_40 : decode cX12_loads 40 = .ok (.istore 4, 2) := by decide +kernel
theorem dX12_loads_42 : decode cX12_loads 42 = .ok (.iconst 0, 1) := by decide +kernel
theorem dX12_loads_43 : decode cX12_loads 43 = .ok (.istore 5, 2) := by decide +kernel
theorem dX12_loads_45 : decode cX12_loads 45 = .ok (.iload 5, 2) := by decide +kernel
theorem dX12_loads_47 : decode cX12_loads 47 = .ok (.aload_n 0, 1) := by decide +kernel
theorem dX12_loads_48 : decode cX12_loads 48 = .ok (.getfield 299, 3) := by decide +kernel
theorem dX12_loads_5 : decode cX12_loads 5 = .ok (.aload_n 0, 1) := by decide +kernel
theorem dX12_loads_51 : decode cX12_loads 51 = .ok (.getfield 231, 3) := by decide +kernel
theorem dX12_loads_54 : decode cX12_loads 54 = .ok (.if_icmp .ge 64, 3) := by decide +kernel
theorem dX12_loads_57 : decode cX12_loads 57 = .ok (.iload 4, 2) := by decide +kernel
theorem dX12_loads_59 : decode cX12_loads 59 = .ok (.ifCond .eq 59, 3) := by decide +kernel
theorem dX12_loads_6 : decode cX12_loads 6 = .ok (.iconst 0, 1) := by decide +kernel
theorem dX12_loads_62 : decode cX12_loads 62 = .ok (.iload_n 2, 1) := by decide +kernel
theorem dX12_loads_63 : decode cX12_loads 63 = .ok (.iload 5, 2) := by decide +kernel
theorem dX12_loads_65 : decode cX12_loads 65 = .ok (.invokestatic 390, 3) := by decide +kernel
theorem dX12_loads_68 : decode cX12_loads 68 = .ok (.ifCond .ne 6, 3) := by decide +kernel
theorem dX12_loads_7 : decode cX12_loads 7 = .ok (.putfield 439, 3) := by decide +kernel
theorem dX12_loads_71 : decode cX12_loads 71 = .ok (.goto 41, 3) := by decide +kernel
theorem dX12_loads_74 : decode cX12_loads 74 = .ok (.aload_n 0, 1) := by decide +kernel
theorem dX12_loads_75 : decode cX12_loads 75 = .ok (.getfield 17, 3) := by decide +kernel
theorem dX12_loads_78 : decode cX12_loads 78 = .ok (.iconst 0, 1) := by decide +kernel
theorem dX12_loads_79 : decode cX12_loads 79 = .ok (.iload 5, 2) := by decide +kernel
theorem dX12_loads_81 : decode cX12_loads 81 = .ok (.iadd, 1) := by decide +kernel
theorem dX12_loads_82 : decode cX12_loads 82 = .ok (.iaload, 1) := by decide +kernel
theorem dX12_loads_83 : decode cX12_loads 83 = .ok (.iconst 1, 1) := by decide +kernel
theorem dX12_loads_84 : decode cX12_loads 84 = .ok (.if_icmp .ne 7, 3) := by decide +kernel
theorem dX12_loads_87 : decode cX12_loads 87 = .ok (.iconst 1, 1) := by decide +kernel
theorem dX12_loads_88 : decode cX12_loads 88 = .ok (.goto 4, 3) := by decide +kernel
theorem dX12_loads_91 : decode cX12_loads 91 = .ok (.iconst 0, 1) := by decide +kernel
theorem dX12_loads_92 : decode cX12_loads 92 = .ok (.istore 4, 2) := by decide +kernel
theorem dX12_loads_94 : decode cX12_loads 94 = .ok (.iload_n 3, 1) := by decide +kernel
theorem dX12_loads_95 : decode cX12_loads 95 = .ok (.iload 4, 2) := by decide +kernel
theorem dX12_loads_97 : decode cX12_loads 97 = .ok (.ifCond .eq 12, 3) := by decide +kernel
def vfX12_loads : List Cond := .code yX12_loads cX12_loads 6 none :: ([.fieldLink RX12 436 "HookPierModel" "loaded" "I", .fieldLink RX12 439 "HookPierModel" "loadedWorth" "I", .fieldLink RX12 299 "HookPierModel" "pier" "LHookPierModel$Pier;", .methodLink RX12 411 yX12_bits, .static yX12_bits, .initialized RX12, .code yX12_bits cX12_bits 3 (some .int), .methodLink RX12 390 yX12_bit, .static yX12_bit, .code yX12_bit cX12_bit 2 (some .boolean), .fieldLink RX12 17 "HookPierModel" "v" "[I", .methodLink RX12 442 yX12_worthNow, .instanceMethod yX12_worthNow, .selects RX12 yX12_worthNow yX12_worthNow, .code yX12_worthNow cX12_worthNow 2 (some .int), .methodLink RX12 323 yX12_keeps, .instanceMethod yX12_keeps, .selects RX12 yX12_keeps yX12_keeps, .code yX12_keeps cX12_keeps 5 (some .int)] ++ wsX120 ++ wsX110)
theorem ifX12_loads_X12 : ∀ w ∈ wsX120, w ∈ vfX12_loads := fun _ h => List.mem_cons_of_mem _ (List.mem_append_left _ (List.mem_append_right _ h))
theorem ifX12_loads_X11 : ∀ w ∈ wsX110, w ∈ vfX12_loads := fun _ h => List.mem_cons_of_mem _ (List.mem_append_right _ h)
set_option maxRecDepth 20000 in
theorem gfX12_loads_0 : GoodIn vfX12_loads (va_wsS RX12 411 yX12_bits vfX12_bits) := goodIn_app (goodIn_r [.methodLink RX12 411 yX12_bits, .static yX12_bits, .initialized RX12] [4, 5, 6] (by decide +kernel) (by decide +kernel)) (goodIn_r (.code yX12_bits cX12_bits 3 (some .int) :: []) [7] (by decide +kernel) (by decide +kernel) : GoodIn vfX12_loads (.code yX12_bits cX12_bits 3 (some .int) :: []))
set_option maxRecDepth 20000 in
theorem gfX12_loads_1 : GoodIn vfX12_loads (va_wsS RX12 390 yX12_bit vfX12_bit) := goodIn_app (goodIn_r [.methodLink RX12 390 yX12_bit, .static yX12_bit, .initialized RX12] [8, 9, 6] (by decide +kernel) (by decide +kernel)) (goodIn_r (.code yX12_bit cX12_bit 2 (some .boolean) :: []) [10] (by decide +kernel) (by decide +kernel) : GoodIn vfX12_loads (.code yX12_bit cX12_bit 2 (some .boolean) :: []))
set_option maxRecDepth 20000 in
theorem gfX12_loads_2 : GoodIn vfX12_loads (wsV RX12 442 RX12 yX12_worthNow vfX12_worthNow) := goodIn_app (goodIn_r [.methodLink RX12 442 yX12_worthNow, .instanceMethod yX12_worthNow, .selects RX12 yX12_worthNow yX12_worthNow, .initialized RX12] [12, 13, 14, 6] (by decide +kernel) (by decide +kernel)) (goodIn_ca (goodIn_ca (goodIn_r (.code yX12_worthNow cX12_worthNow 2 (some .int) :: [.fieldLink RX12 17 "HookPierModel" "v" "[I", .methodLink RX12 323 yX12_keeps, .instanceMethod yX12_keeps, .selects RX12 yX12_keeps yX12_keeps, .initialized RX12, .code yX12_keeps cX12_keeps 5 (some .int), .fieldLink RX12 299 "HookPierModel" "pier" "LHookPierModel$Pier;"]) [15, 11, 16, 17, 18, 6, 19, 3] (by decide +kernel) (by decide +kernel) : GoodIn vfX12_loads (.code yX12_worthNow cX12_worthNow 2 (some .int) :: [.fieldLink RX12 17 "HookPierModel" "v" "[I", .methodLink RX12 323 yX12_keeps, .instanceMethod yX12_keeps, .selects RX12 yX12_keeps yX12_keeps, .initialized RX12, .code yX12_keeps cX12_keeps 5 (some .int), .fieldLink RX12 299 "HookPierModel" "pier" "LHookPierModel$Pier;"])) (goodIn_sub ifX12_loads_X12 (by decide +kernel))) (goodIn_sub ifX12_loads_X11 (by decide +kernel)))
set_option maxHeartbeats 2000000 in
set_option maxRecDepth 100000 in
theorem kfX12_loads (l : Launch) (dC : Nat → ClassId) (dI : Nat → Nat → Nat) (a0 : Nat) (k1 : Int32) (a2 : Nat) (a3 : Nat) (uq : Nat → Nat) (kq : Nat → ClassId) (m_v : TX12_v) (m_k : TX12_k) (g8 : Value) (g9 : Value) (g10 : Value) (g11 : Value) (g12 : Value) (g13 : Value) (g14 : Value) (g15 : Value) (g16 : Value) (g17 : Value) (g18 : Value) (g19 : Value) (g20 : Value) (g21 : Value) (g22 : Value) (g23 : Value) (g24 : Value) (g25 : Value) (g26 : Value) (g27 : Value) (g28 : Value) (g29 : Value) (g30 : Value) (g31 : Value) (g32 : Value) (q_q : TX11_q) (cB34 : ClassId) (sz : Nat) (out : TX12_k) (h : f_X12_loads k1 m_v m_k q_q = some out) : Met l yX12_loads vfX12_loads ({ frames := 2, cells := 0, slots := 0, locals := 45 }) (PC (dC, dI) [.ref a0, .int k1] sz ((a0, .inr (9, [g8, g9, g10, .ref a2, g11, g12, g13, g14, g15, g16, g17, g18, g19, g20, g21, .ref a3, g22, g23, g24, g25, g26, g27, g28, g29, .int m_k.1, .int m_k.2.1, .int m_k.2.2, g30, g31, g32])) :: bX11 a2 uq kq q_q ([(a3, .inl (cB34, 26, .inl m_v))])) (tX11 kq ((cB34, .int) :: []))) (va_Qv (S := Unit) (fun _ => True) (fun _ t => BC (dC, dI) (va_A ((a0, .inr (9, [g8, g9, g10, .ref a2, g11, g12, g13, g14, g15, g16, g17, g18, g19, g20, g21, .ref a3, g22, g23, g24, g25, g26, g27, g28, g29, .int m_k.1, .int m_k.2.1, .int m_k.2.2, g30, g31, g32])) :: bX11 a2 uq kq q_q ([(a3, .inl (cB34, 26, .inl m_v))])) sz) ((a0, .inr (9, [g8, g9, g10, .ref a2, g11, g12, g13, g14, g15, g16, g17, g18, g19, g20, g21, .ref a3, g22, g23, g24, g25, g26, g27, g28, g29, .int out.1, .int out.2.1, .int out.2.2, g30, g31, g32])) :: bX11 a2 uq kq q_q ([(a3, .inl (cB34, 26, .inl m_v))])) [] t) (va_A ((a0, .inr (9, [g8, g9, g10, .ref a2, g11, g12, g13, g14, g15, g16, g17, g18, g19, g20, g21, .ref a3, g22, g23, g24, g25, g26, g27, g28, g29, .int m_k.1, .int m_k.2.1, .int m_k.2.2, g30, g31, g32])) :: bX11 a2 uq kq q_q ([(a3, .inl (cB34, 26, .inl m_v))])) sz)) 0 0 (va_A ((a0, .inr (9, [g8, g9, g10, .ref a2, g11, g12, g13, g14, g15, g16, g17, g18, g19, g20, g21, .ref a3, g22, g23, g24, g25, g26, g27, g28, g29, .int m_k.1, .int m_k.2.1, .int m_k.2.2, g30, g31, g32])) :: bX11 a2 uq kq q_q ([(a3, .inl (cB34, 26, .inl m_v))])) sz) := by
  refine Met.ofW (cc := cX12_loads) (maxL := 6) (ret := none) (by decide) rfl ?_
  intro p e s m args below meth c s₁ B0 hml hv
  obtain ⟨rfl, hsz, hP, hK, hD0, hN⟩ := hv
  have hx := B0.exec
  have hb := B0.bytes
  have hr := B0.returns
  have hts := atoms_spec (ws := vfX12_loads) B0.pre
  have hown : s.vm.findClass RX12 = some m.cls := findClass_of_methodNamed B0.named
  have hlocks := B0.notSynchronized
  subst hsz
  have hD := hD0.self (sz := s.heap.size)
  generalize hAe : va_A ((a0, .inr (9, [g8, g9, g10, .ref a2, g11, g12, g13, g14, g15, g16, g17, g18, g19, g20, g21, .ref a3, g22, g23, g24, g25, g26, g27, g28, g29, .int m_k.1, .int m_k.2.1, .int m_k.2.2, g30, g31, g32])) :: bX11 a2 uq kq q_q ([(a3, .inl (cB34, 26, .inl m_v))])) s.heap.size = A at hD ⊢
  have hA : ∀ q : Nat, s.heap.size ≤ q → A q := fun q h => by rw [← hAe]; exact Or.inr h
  have hS : va_S A s.heap s.heap [] := va_S.rf
  have hP : va_P (dC, dI) vwCl ((a0, .inr (9, [g8, g9, g10, .ref a2, g11, g12, g13, g14, g15, g16, g17, g18, g19, g20, g21, .ref a3, g22, g23, g24, g25, g26, g27, g28, g29, .int m_k.1, .int m_k.2.1, .int m_k.2.2, g30, g31, g32])) :: bX11 a2 uq kq q_q ([(a3, .inl (cB34, 26, .inl m_v))])) s.heap := hP
  have hl := lv_entry ([.ref a0, .int k1]) (n := 6) (Nat.le_of_ble_eq_true rfl)
  rw [lg_entry_eq]
  generalize (lg_sl ([.ref a0, .int k1]) ++ List.replicate (6 - (lg_sl ([.ref a0, .int k1])).length) Slot.unset).toArray = ls at hl ⊢
  have hl : lv_has ls 6 [(0, .ref a0), (1, .int k1)] := hl
  refine W_q (fun QQ hQQ => ?_)
  rw [f_X12_loads] at h
  refine lv_aload_n hx hb dX12_loads_0 rfl (lv_at hl 0 rfl) ?_
  refine lv_iconst (v := 0) hx hb dX12_loads_1 (by decide) ?_
  refine va_put (D := (dC, dI)) (ci := 9) (v := .int 0) (ty := .int) (C := RX12) (T := TX12) (N := 30) hx hb hts ifX12_loads_X12 tyX12 tyX12_ok nmX12 hown hK hP hD hS 0 rfl rfl 25 (by decide) (hts (.fieldLink RX12 436 "HookPierModel" "loaded" "I") (List.mem_of_getElem? (i := 1) rfl)) (fun _ h9 => h9) rfl (by decide +kernel) rfl rfl (Nat.le_of_ble_eq_true rfl) dX12_loads_2 (fun H locs hP hD hS => ?_)
  have hP : va_P (dC, dI) vwCl ((a0, .inr (9, [g8, g9, g10, .ref a2, g11, g12, g13, g14, g15, g16, g17, g18, g19, g20, g21, .ref a3, g22, g23, g24, g25, g26, g27, g28, g29, .int m_k.1, .int 0, .int m_k.2.2, g30, g31, g32])) :: bX11 a2 uq kq q_q ([(a3, .inl (cB34, 26, .inl m_v))])) H := hP
  have hD : va_D A ((a0, .inr (9, [g8, g9, g10, .ref a2, g11, g12, g13, g14, g15, g16, g17, g18, g19, g20, g21, .ref a3, g22, g23, g24, g25, g26, g27, g28, g29, .int m_k.1, .int 0, .int m_k.2.2, g30, g31, g32])) :: bX11 a2 uq kq q_q ([(a3, .inl (cB34, 26, .inl m_v))])) := hD
  refine lv_aload_n hx hb dX12_loads_5 rfl (lv_at hl 0 rfl) ?_
  refine lv_iconst (v := 0) hx hb dX12_loads_6 (by decide) ?_
  refine va_put (D := (dC, dI)) (ci := 9) (v := .int 0) (ty := .int) (C := RX12) (T := TX12) (N := 30) hx hb hts ifX12_loads_X12 tyX12 tyX12_ok nmX12 hown hK hP hD hS 0 rfl rfl 26 (by decide) (hts (.fieldLink RX12 439 "HookPierModel" "loadedWorth" "I") (List.mem_of_getElem? (i := 2) rfl)) (fun _ h9 => h9) rfl (by decide +kernel) rfl rfl (Nat.le_of_ble_eq_true rfl) dX12_loads_7 (fun H locs hP hD hS => ?_)
  have hP : va_P (dC, dI) vwCl ((a0, .inr (9, [g8, g9, g10, .ref a2, g11, g12, g13, g14, g15, g16, g17, g18, g19, g20, g21, .ref a3, g22, g23, g24, g25, g26, g27, g28, g29, .int m_k.1, .int 0, .int 0, g30, g31, g32])) :: bX11 a2 uq kq q_q ([(a3, .inl (cB34, 26, .inl m_v))])) H := hP
  have hD : va_D A ((a0, .inr (9, [g8, g9, g10, .ref a2, g11, g12, g13, g14, g15, g16, g17, g18, g19, g20, g21, .ref a3, g22, g23, g24, g25, g26, g27, g28, g29, .int m_k.1, .int 0, .int 0, g30, g31, g32])) :: bX11 a2 uq kq q_q ([(a3, .inl (cB34, 26, .inl m_v))])) := hD
  refine lv_iconst (v := 1) hx hb dX12_loads_10 (by decide) ?_
  refine lv_istore_n (lv' := [(2, .int 1), (0, .ref a0), (1, .int k1)]) hx hb dX12_loads_11 rfl hl (by decide) rfl (fun ls hl => ?_)
  have L12 : ∀ (n12 : Nat) (v12_l2 : Int32) (v12_m_k : TX12_k) (H : Heap) (locs : List Loc) (ls : Array Slot), f_X12_loads_L12 k1 m_v q_q n12 v12_l2 v12_m_k = some out → va_P (dC, dI) vwCl ((a0, .inr (9, [g8, g9, g10, .ref a2, g11, g12, g13, g14, g15, g16, g17, g18, g19, g20, g21, .ref a3, g22, g23, g24, g25, g26, g27, g28, g29, .int v12_m_k.1, .int v12_m_k.2.1, .int v12_m_k.2.2, g30, g31, g32])) :: bX11 a2 uq kq q_q ([(a3, .inl (cB34, 26, .inl m_v))])) H → va_D A ((a0, .inr (9, [g8, g9, g10, .ref a2, g11, g12, g13, g14, g15, g16, g17, g18, g19, g20, g21, .ref a3, g22, g23, g24, g25, g26, g27, g28, g29, .int v12_m_k.1, .int v12_m_k.2.1, .int v12_m_k.2.2, g30, g31, g32])) :: bX11 a2 uq kq q_q ([(a3, .inl (cB34, 26, .inl m_v))])) → va_S A s.heap H locs → lv_has ls 6 [(2, .int v12_l2), (0, .ref a0), (1, .int k1)] → W p l e (headSpec vfX12_loads { frames := 2, cells := 0, slots := 0, locals := 45 }).room s m ([.ref a0, .int k1]).toArray below meth c H locs 0 0 QQ (F0 m 12 ls []) := by
    intro n12
    induction n12 with
    | zero =>
      intro v12_l2 v12_m_k H locs ls h  _ _ _ _
      rw [f_X12_loads_L12] at h
      cases h
    | succ n12 ih12 =>
      intro v12_l2 v12_m_k H locs ls h  hP hD hS hl
      rw [f_X12_loads_L12] at h
      refine lv_iload_n hx hb dX12_loads_12 rfl (lv_at hl 0 rfl) ?_
      refine lv_iconst (v := 1) hx hb dX12_loads_13 (by decide) ?_
      refine lv_aload_n hx hb dX12_loads_14 rfl (lv_at hl 1 rfl) ?_
      refine va_get (D := (dC, dI)) (ci := 9) (v := .ref a2) (C := RX12) (T := TX12) (N := 30) hx hb hts ifX12_loads_X12 hown hK hP 0 rfl rfl 3 (by decide) (hts (.fieldLink RX12 299 "HookPierModel" "pier" "LHookPierModel$Pier;") (List.mem_of_getElem? (i := 3) rfl)) (fun _ h9 => h9) rfl dX12_loads_15 ?_
      refine va_getN (D := (dC, dI)) (ci := 8) (v := .int q_q.2.2.2.2.2.2.1) (C := RX11) (T := TX11) (N := 24) hx hb hts ifX12_loads_X11 hown hK hP 1 rfl rfl 6 (by decide) (va_Nw.use rfl (hN.1 (.fieldLinkNest RX12 231 "HookPierModel$Pier" "answers" "I" "HookPierModel") (List.mem_of_getElem? (i := 28) rfl))) (fun _ h9 => h9) rfl dX12_loads_18 ?_
      refine lv_ishl hx hb dX12_loads_21 ?_
      refine lv_icmp_ge (tgt := 172) hx hb dX12_loads_22 (by decide) (fun c22 => ?_) (fun c22 => ?_)
      · have h := (if_pos c22).symm.trans h
        obtain rfl := Option.some.inj h
        have hP9 := hP.sub (ws' := ((a0, .inr (9, [g8, g9, g10, .ref a2, g11, g12, g13, g14, g15, g16, g17, g18, g19, g20, g21, .ref a3, g22, g23, g24, g25, g26, g27, g28, g29, .int v12_m_k.1, .int v12_m_k.2.1, .int v12_m_k.2.2, g30, g31, g32])) :: bX11 a2 uq kq q_q ([(a3, .inl (cB34, 26, .inl m_v))]))) [0, 1, 2, 3, 4, 5, 6, 7, 8, 9, 10, 11, 12, 13, 14, 15, 16] rfl
        have hD9 := hD.sub (ws' := ((a0, .inr (9, [g8, g9, g10, .ref a2, g11, g12, g13, g14, g15, g16, g17, g18, g19, g20, g21, .ref a3, g22, g23, g24, g25, g26, g27, g28, g29, .int v12_m_k.1, .int v12_m_k.2.1, .int v12_m_k.2.2, g30, g31, g32])) :: bX11 a2 uq kq q_q ([(a3, .inl (cB34, 26, .inl m_v))]))) [0, 1, 2, 3, 4, 5, 6, 7, 8, 9, 10, 11, 12, 13, 14, 15, 16] (by decide) rfl
        have hK9 := hK.sub (tys' := []) [] rfl
        rw [hQQ]
        exact W.vret hx hb hr (fun t ht hW => ⟨⟨(), rfl, trivial, by rw [ht]; exact hP9, va_K.moved hW.alike hK9, hD9⟩, hS.F ht⟩) hS.2.2 dX12_loads_172
      · have h := (if_neg c22).symm.trans h
        refine lv_iconst (v := 0) hx hb dX12_loads_25 (by decide) ?_
        refine lv_istore_n (lv' := [(3, .int 0), (2, .int v12_l2), (0, .ref a0), (1, .int k1)]) hx hb dX12_loads_26 rfl hl (by decide) rfl (fun ls hl => ?_)
        refine lv_iload_n hx hb dX12_loads_27 rfl (lv_at hl 1 rfl) ?_
        obtain ⟨o28, eo28, h⟩ := bd_of h
        refine cl_i (wc := []) (wr := ((a0, .inr (9, [g8, g9, g10, .ref a2, g11, g12, g13, g14, g15, g16, g17, g18, g19, g20, g21, .ref a3, g22, g23, g24, g25, g26, g27, g28, g29, .int v12_m_k.1, .int v12_m_k.2.1, .int v12_m_k.2.2, g30, g31, g32])) :: bX11 a2 uq kq q_q ([(a3, .inl (cB34, 26, .inl m_v))]))) (va_runS (As := [.int v12_l2]) (rest := []) ⟨hx, hb, hml, hown, hts⟩ (kfX12_bits l dC dI v12_l2 H.size o28 eo28) (va_cwS 1 hts gfX12_loads_0 rfl rfl rfl (by decide +kernel) ⟨(Nat.le_of_ble_eq_true rfl), (Nat.le_of_ble_eq_true rfl)⟩) (PS (hP.sub (ws' := []) [] rfl) (hK.sub (tys' := ([])) [] rfl) (hD.sub (ws' := []) [] (by decide) rfl) hN) rfl rfl hl.1 rfl (lv_room (Nat.le_of_ble_eq_true rfl)) dX12_loads_28 ⟨(Nat.le_of_ble_eq_true rfl), (Nat.le_of_ble_eq_true rfl)⟩) hP hD hK hS hA [] [0, 1, 2, 3, 4, 5, 6, 7, 8, 9, 10, 11, 12, 13, 14, 15, 16] rfl rfl (by decide) (by decide) (fun r28 _ H locs hw hP hD _ hS => ?_)
        obtain rfl := hw.symm
        have hP : va_P (dC, dI) vwCl ((a0, .inr (9, [g8, g9, g10, .ref a2, g11, g12, g13, g14, g15, g16, g17, g18, g19, g20, g21, .ref a3, g22, g23, g24, g25, g26, g27, g28, g29, .int v12_m_k.1, .int v12_m_k.2.1, .int v12_m_k.2.2, g30, g31, g32])) :: bX11 a2 uq kq q_q ([(a3, .inl (cB34, 26, .inl m_v))])) H := hP
        have hD : va_D A ((a0, .inr (9, [g8, g9, g10, .ref a2, g11, g12, g13, g14, g15, g16, g17, g18, g19, g20, g21, .ref a3, g22, g23, g24, g25, g26, g27, g28, g29, .int v12_m_k.1, .int v12_m_k.2.1, .int v12_m_k.2.2, g30, g31, g32])) :: bX11 a2 uq kq q_q ([(a3, .inl (cB34, 26, .inl m_v))])) := hD
        refine lv_iload_n hx hb dX12_loads_31 rfl (lv_at hl 3 rfl) ?_
        have J40 : ∀ (v40_t0 : Int32) (H : Heap) (locs : List Loc) (ls : Array Slot), f_X12_loads_J40 m_v q_q (f_X12_loads_L12 k1 m_v q_q n12) v12_l2 v12_m_k v40_t0 = some out → 0 ≤ v40_t0.toInt ∧ v40_t0.toInt ≤ 1 → va_P (dC, dI) vwCl ((a0, .inr (9, [g8, g9, g10, .ref a2, g11, g12, g13, g14, g15, g16, g17, g18, g19, g20, g21, .ref a3, g22, g23, g24, g25, g26, g27, g28, g29, .int v12_m_k.1, .int v12_m_k.2.1, .int v12_m_k.2.2, g30, g31, g32])) :: bX11 a2 uq kq q_q ([(a3, .inl (cB34, 26, .inl m_v))])) H → va_D A ((a0, .inr (9, [g8, g9, g10, .ref a2, g11, g12, g13, g14, g15, g16, g17, g18, g19, g20, g21, .ref a3, g22, g23, g24, g25, g26, g27, g28, g29, .int v12_m_k.1, .int v12_m_k.2.1, .int v12_m_k.2.2, g30, g31, g32])) :: bX11 a2 uq kq q_q ([(a3, .inl (cB34, 26, .inl m_v))])) → va_S A s.heap H locs → lv_has ls 6 [(3, .int 0), (2, .int v12_l2), (0, .ref a0), (1, .int k1)] → W p l e (headSpec vfX12_loads { frames := 2, cells := 0, slots := 0, locals := 45 }).room s m ([.ref a0, .int k1]).toArray below meth c H locs 0 0 QQ (F0 m 40 ls [.int v40_t0]) := by
          intro v40_t0 H locs ls h zb_v40_t0 hP hD hS hl
          rw [f_X12_loads_J40] at h
          refine lv_istore (lv' := [(4, .int v40_t0), (3, .int 0), (2, .int v12_l2), (0, .ref a0), (1, .int k1)]) hx hb dX12_loads_40 hl (by decide) rfl (fun ls hl => ?_)
          refine lv_iconst (v := 0) hx hb dX12_loads_42 (by decide) ?_
          refine lv_istore (lv' := [(5, .int 0), (4, .int v40_t0), (3, .int 0), (2, .int v12_l2), (0, .ref a0), (1, .int k1)]) hx hb dX12_loads_43 hl (by decide) rfl (fun ls hl => ?_)
          have L45 : ∀ (n45 : Nat) (v45_l5 : Int32) (v45_l4 : Int32) (v45_l3 : Int32) (H : Heap) (locs : List Loc) (ls : Array Slot), f_X12_loads_L45 m_v q_q (f_X12_loads_L12 k1 m_v q_q n12) v12_l2 v12_m_k n45 v45_l5 v45_l4 v45_l3 = some out → 0 ≤ v45_l4.toInt ∧ v45_l4.toInt ≤ 1 → va_P (dC, dI) vwCl ((a0, .inr (9, [g8, g9, g10, .ref a2, g11, g12, g13, g14, g15, g16, g17, g18, g19, g20, g21, .ref a3, g22, g23, g24, g25, g26, g27, g28, g29, .int v12_m_k.1, .int v12_m_k.2.1, .int v12_m_k.2.2, g30, g31, g32])) :: bX11 a2 uq kq q_q ([(a3, .inl (cB34, 26, .inl m_v))])) H → va_D A ((a0, .inr (9, [g8, g9, g10, .ref a2, g11, g12, g13, g14, g15, g16, g17, g18, g19, g20, g21, .ref a3, g22, g23, g24, g25, g26, g27, g28, g29, .int v12_m_k.1, .int v12_m_k.2.1, .int v12_m_k.2.2, g30, g31, g32])) :: bX11 a2 uq kq q_q ([(a3, .inl (cB34, 26, .inl m_v))])) → va_S A s.heap H locs → lv_has ls 6 [(5, .int v45_l5), (4, .int v45_l4), (3, .int v45_l3), (2, .int v12_l2), (0, .ref a0), (1, .int k1)] → W p l e (headSpec vfX12_loads { frames := 2, cells := 0, slots := 0, locals := 45 }).room s m ([.ref a0, .int k1]).toArray below meth c H locs 0 0 QQ (F0 m 45 ls []) := by
            intro n45
            induction n45 with
            | zero =>
              intro v45_l5 v45_l4 v45_l3 H locs ls h _ _ _ _ _
              rw [f_X12_loads_L45] at h
              cases h
            | succ n45 ih45 =>
              intro v45_l5 v45_l4 v45_l3 H locs ls h zb_v45_l4 hP hD hS hl
              rw [f_X12_loads_L45] at h
              refine lv_iload hx hb dX12_loads_45 (lv_at hl 0 rfl) ?_
              refine lv_aload_n hx hb dX12_loads_47 rfl (lv_at hl 4 rfl) ?_
              refine va_get (D := (dC, dI)) (ci := 9) (v := .ref a2) (C := RX12) (T := TX12) (N := 30) hx hb hts ifX12_loads_X12 hown hK hP 0 rfl rfl 3 (by decide) (hts (.fieldLink RX12 299 "HookPierModel" "pier" "LHookPierModel$Pier;") (List.mem_of_getElem? (i := 3) rfl)) (fun _ h9 => h9) rfl dX12_loads_48 ?_
              refine va_getN (D := (dC, dI)) (ci := 8) (v := .int q_q.2.2.2.2.2.2.1) (C := RX11) (T := TX11) (N := 24) hx hb hts ifX12_loads_X11 hown hK hP 1 rfl rfl 6 (by decide) (va_Nw.use rfl (hN.1 (.fieldLinkNest RX12 231 "HookPierModel$Pier" "answers" "I" "HookPierModel") (List.mem_of_getElem? (i := 28) rfl))) (fun _ h9 => h9) rfl dX12_loads_51 ?_
              have J118 : ∀ (H : Heap) (locs : List Loc) (ls : Array Slot), f_X12_loads_J118 (f_X12_loads_L12 k1 m_v q_q n12) v12_l2 v12_m_k v45_l3 v45_l4 = some out → va_P (dC, dI) vwCl ((a0, .inr (9, [g8, g9, g10, .ref a2, g11, g12, g13, g14, g15, g16, g17, g18, g19, g20, g21, .ref a3, g22, g23, g24, g25, g26, g27, g28, g29, .int v12_m_k.1, .int v12_m_k.2.1, .int v12_m_k.2.2, g30, g31, g32])) :: bX11 a2 uq kq q_q ([(a3, .inl (cB34, 26, .inl m_v))])) H → va_D A ((a0, .inr (9, [g8, g9, g10, .ref a2, g11, g12, g13, g14, g15, g16, g17, g18, g19, g20, g21, .ref a3, g22, g23, g24, g25, g26, g27, g28, g29, .int v12_m_k.1, .int v12_m_k.2.1, .int v12_m_k.2.2, g30, g31, g32])) :: bX11 a2 uq kq q_q ([(a3, .inl (cB34, 26, .inl m_v))])) → va_S A s.heap H locs → lv_has ls 6 [(4, .int v45_l4), (3, .int v45_l3), (2, .int v12_l2), (0, .ref a0), (1, .int k1)] → W p l e (headSpec vfX12_loads { frames := 2, cells := 0, slots := 0, locals := 45 }).room s m ([.ref a0, .int k1]).toArray below meth c H locs 0 0 QQ (F0 m 118 ls []) := by
                intro  H locs ls h  hP hD hS hl
                rw [f_X12_loads_J118] at h
                refine lv_iload hx hb dX12_loads_118 (lv_at hl 0 rfl) ?_
                have J166 : ∀ (v166_m_k : TX12_k) (H : Heap) (locs : List Loc) (ls : Array Slot), f_X12_loads_J166 (f_X12_loads_L12 k1 m_v q_q n12) v12_l2 v166_m_k = some out → va_P (dC, dI) vwCl ((a0, .inr (9, [g8, g9, g10, .ref a2, g11, g12, g13, g14, g15, g16, g17, g18, g19, g20, g21, .ref a3, g22, g23, g24, g25, g26, g27, g28, g29, .int v166_m_k.1, .int v166_m_k.2.1, .int v166_m_k.2.2, g30, g31, g32])) :: bX11 a2 uq kq q_q ([(a3, .inl (cB34, 26, .inl m_v))])) H → va_D A ((a0, .inr (9, [g8, g9, g10, .ref a2, g11, g12, g13, g14, g15, g16, g17, g18, g19, g20, g21, .ref a3, g22, g23, g24, g25, g26, g27, g28, g29, .int v166_m_k.1, .int v166_m_k.2.1, .int v166_m_k.2.2, g30, g31, g32])) :: bX11 a2 uq kq q_q ([(a3, .inl (cB34, 26, .inl m_v))])) → va_S A s.heap H locs → lv_has ls 6 [(2, .int v12_l2), (0, .ref a0), (1, .int k1)] → W p l e (headSpec vfX12_loads { frames := 2, cells := 0, slots := 0, locals := 45 }).room s m ([.ref a0, .int k1]).toArray below meth c H locs 0 0 QQ (F0 m 166 ls []) := by
                  intro v166_m_k H locs ls h  hP hD hS hl
                  rw [f_X12_loads_J166] at h
                  refine lv_iinc (v := (v12_l2 + (1 : Int32))) (lv' := [(2, .int (v12_l2 + (1 : Int32))), (0, .ref a0), (1, .int k1)]) hx hb dX12_loads_166 hl (k := 0) rfl rfl (by decide) rfl (fun ls hl => ?_)
                  refine lv_goto (tgt := 12) hx hb dX12_loads_169 (by decide) ?_
                  exact ih12 (v12_l2 + (1 : Int32)) v166_m_k H _ ls h  hP hD hS (lv_sub hl [0, 1, 2] rfl)
                refine lv_if_eq (tgt := 166) hx hb dX12_loads_120 (by decide) (fun c120 => ?_) (fun c120 => ?_)
                · have h := (if_pos c120).symm.trans h
                  exact J166 v12_m_k H _ ls h  hP hD hS (lv_sub hl [2, 3, 4] rfl)
                · have h := (if_neg c120).symm.trans h
                  refine lv_iload_n hx hb dX12_loads_123 rfl (lv_at hl 1 rfl) ?_
                  refine lv_aload_n hx hb dX12_loads_124 rfl (lv_at hl 3 rfl) ?_
                  refine va_get (D := (dC, dI)) (ci := 9) (v := .int v12_m_k.2.2) (C := RX12) (T := TX12) (N := 30) hx hb hts ifX12_loads_X12 hown hK hP 0 rfl rfl 26 (by decide) (hts (.fieldLink RX12 439 "HookPierModel" "loadedWorth" "I") (List.mem_of_getElem? (i := 2) rfl)) (fun _ h9 => h9) rfl dX12_loads_125 ?_
                  refine lv_icmp_lt (tgt := 166) hx hb dX12_loads_128 (by decide) (fun c128 => ?_) (fun c128 => ?_)
                  · have h := (if_pos c128).symm.trans h
                    exact J166 v12_m_k H _ ls h  hP hD hS (lv_sub hl [2, 3, 4] rfl)
                  · have h := (if_neg c128).symm.trans h
                    refine lv_iload_n hx hb dX12_loads_131 rfl (lv_at hl 1 rfl) ?_
                    refine lv_aload_n hx hb dX12_loads_132 rfl (lv_at hl 3 rfl) ?_
                    refine va_get (D := (dC, dI)) (ci := 9) (v := .int v12_m_k.2.2) (C := RX12) (T := TX12) (N := 30) hx hb hts ifX12_loads_X12 hown hK hP 0 rfl rfl 26 (by decide) (hts (.fieldLink RX12 439 "HookPierModel" "loadedWorth" "I") (List.mem_of_getElem? (i := 2) rfl)) (fun _ h9 => h9) rfl dX12_loads_133 ?_
                    have J156 : ∀ (H : Heap) (locs : List Loc) (ls : Array Slot), f_X12_loads_J156 (f_X12_loads_L12 k1 m_v q_q n12) v12_l2 v12_m_k v45_l3 = some out → va_P (dC, dI) vwCl ((a0, .inr (9, [g8, g9, g10, .ref a2, g11, g12, g13, g14, g15, g16, g17, g18, g19, g20, g21, .ref a3, g22, g23, g24, g25, g26, g27, g28, g29, .int v12_m_k.1, .int v12_m_k.2.1, .int v12_m_k.2.2, g30, g31, g32])) :: bX11 a2 uq kq q_q ([(a3, .inl (cB34, 26, .inl m_v))])) H → va_D A ((a0, .inr (9, [g8, g9, g10, .ref a2, g11, g12, g13, g14, g15, g16, g17, g18, g19, g20, g21, .ref a3, g22, g23, g24, g25, g26, g27, g28, g29, .int v12_m_k.1, .int v12_m_k.2.1, .int v12_m_k.2.2, g30, g31, g32])) :: bX11 a2 uq kq q_q ([(a3, .inl (cB34, 26, .inl m_v))])) → va_S A s.heap H locs → lv_has ls 6 [(3, .int v45_l3), (2, .int v12_l2), (0, .ref a0), (1, .int k1)] → W p l e (headSpec vfX12_loads { frames := 2, cells := 0, slots := 0, locals := 45 }).room s m ([.ref a0, .int k1]).toArray below meth c H locs 0 0 QQ (F0 m 156 ls []) := by
                      intro  H locs ls h  hP hD hS hl
                      rw [f_X12_loads_J156] at h
                      refine lv_aload_n hx hb dX12_loads_156 rfl (lv_at hl 2 rfl) ?_
                      refine lv_iload_n hx hb dX12_loads_157 rfl (lv_at hl 1 rfl) ?_
                      refine va_put (D := (dC, dI)) (ci := 9) (v := .int v12_l2) (ty := .int) (C := RX12) (T := TX12) (N := 30) hx hb hts ifX12_loads_X12 tyX12 tyX12_ok nmX12 hown hK hP hD hS 0 rfl rfl 25 (by decide) (hts (.fieldLink RX12 436 "HookPierModel" "loaded" "I") (List.mem_of_getElem? (i := 1) rfl)) (fun _ h9 => h9) rfl (by decide +kernel) rfl rfl (Nat.le_of_ble_eq_true rfl) dX12_loads_158 (fun H locs hP hD hS => ?_)
                      have hP : va_P (dC, dI) vwCl ((a0, .inr (9, [g8, g9, g10, .ref a2, g11, g12, g13, g14, g15, g16, g17, g18, g19, g20, g21, .ref a3, g22, g23, g24, g25, g26, g27, g28, g29, .int v12_m_k.1, .int v12_l2, .int v12_m_k.2.2, g30, g31, g32])) :: bX11 a2 uq kq q_q ([(a3, .inl (cB34, 26, .inl m_v))])) H := hP
                      have hD : va_D A ((a0, .inr (9, [g8, g9, g10, .ref a2, g11, g12, g13, g14, g15, g16, g17, g18, g19, g20, g21, .ref a3, g22, g23, g24, g25, g26, g27, g28, g29, .int v12_m_k.1, .int v12_l2, .int v12_m_k.2.2, g30, g31, g32])) :: bX11 a2 uq kq q_q ([(a3, .inl (cB34, 26, .inl m_v))])) := hD
                      refine lv_aload_n hx hb dX12_loads_161 rfl (lv_at hl 2 rfl) ?_
                      refine lv_iload_n hx hb dX12_loads_162 rfl (lv_at hl 0 rfl) ?_
                      refine va_put (D := (dC, dI)) (ci := 9) (v := .int v45_l3) (ty := .int) (C := RX12) (T := TX12) (N := 30) hx hb hts ifX12_loads_X12 tyX12 tyX12_ok nmX12 hown hK hP hD hS 0 rfl rfl 26 (by decide) (hts (.fieldLink RX12 439 "HookPierModel" "loadedWorth" "I") (List.mem_of_getElem? (i := 2) rfl)) (fun _ h9 => h9) rfl (by decide +kernel) rfl rfl (Nat.le_of_ble_eq_true rfl) dX12_loads_163 (fun H locs hP hD hS => ?_)
                      have hP : va_P (dC, dI) vwCl ((a0, .inr (9, [g8, g9, g10, .ref a2, g11, g12, g13, g14, g15, g16, g17, g18, g19, g20, g21, .ref a3, g22, g23, g24, g25, g26, g27, g28, g29, .int v12_m_k.1, .int v12_l2, .int v45_l3, g30, g31, g32])) :: bX11 a2 uq kq q_q ([(a3, .inl (cB34, 26, .inl m_v))])) H := hP
                      have hD : va_D A ((a0, .inr (9, [g8, g9, g10, .ref a2, g11, g12, g13, g14, g15, g16, g17, g18, g19, g20, g21, .ref a3, g22, g23, g24, g25, g26, g27, g28, g29, .int v12_m_k.1, .int v12_l2, .int v45_l3, g30, g31, g32])) :: bX11 a2 uq kq q_q ([(a3, .inl (cB34, 26, .inl m_v))])) := hD
                      exact J166 (v12_m_k.1, v12_l2, v45_l3) H _ ls h  hP hD hS (lv_sub hl [1, 2, 3] rfl)
                    refine lv_icmp_ne (tgt := 156) hx hb dX12_loads_136 (by decide) (fun c136 => ?_) (fun c136 => ?_)
                    · have h := (if_neg c136).symm.trans h
                      exact J156  H _ ls h  hP hD hS (lv_sub hl [1, 2, 3, 4] rfl)
                    · have h := (if_pos c136).symm.trans h
                      refine lv_iload_n hx hb dX12_loads_139 rfl (lv_at hl 2 rfl) ?_
                      obtain ⟨o140, eo140, h⟩ := bd_of h
                      refine cl_i (wc := []) (wr := ((a0, .inr (9, [g8, g9, g10, .ref a2, g11, g12, g13, g14, g15, g16, g17, g18, g19, g20, g21, .ref a3, g22, g23, g24, g25, g26, g27, g28, g29, .int v12_m_k.1, .int v12_m_k.2.1, .int v12_m_k.2.2, g30, g31, g32])) :: bX11 a2 uq kq q_q ([(a3, .inl (cB34, 26, .inl m_v))]))) (va_runS (As := [.int v12_l2]) (rest := []) ⟨hx, hb, hml, hown, hts⟩ (kfX12_bits l dC dI v12_l2 H.size o140 eo140) (va_cwS 1 hts gfX12_loads_0 rfl rfl rfl (by decide +kernel) ⟨(Nat.le_of_ble_eq_true rfl), (Nat.le_of_ble_eq_true rfl)⟩) (PS (hP.sub (ws' := []) [] rfl) (hK.sub (tys' := ([])) [] rfl) (hD.sub (ws' := []) [] (by decide) rfl) hN) rfl rfl hl.1 rfl (lv_room (Nat.le_of_ble_eq_true rfl)) dX12_loads_140 ⟨(Nat.le_of_ble_eq_true rfl), (Nat.le_of_ble_eq_true rfl)⟩) hP hD hK hS hA [] [0, 1, 2, 3, 4, 5, 6, 7, 8, 9, 10, 11, 12, 13, 14, 15, 16] rfl rfl (by decide) (by decide) (fun r140 _ H locs hw hP hD _ hS => ?_)
                      obtain rfl := hw.symm
                      have hP : va_P (dC, dI) vwCl ((a0, .inr (9, [g8, g9, g10, .ref a2, g11, g12, g13, g14, g15, g16, g17, g18, g19, g20, g21, .ref a3, g22, g23, g24, g25, g26, g27, g28, g29, .int v12_m_k.1, .int v12_m_k.2.1, .int v12_m_k.2.2, g30, g31, g32])) :: bX11 a2 uq kq q_q ([(a3, .inl (cB34, 26, .inl m_v))])) H := hP
                      have hD : va_D A ((a0, .inr (9, [g8, g9, g10, .ref a2, g11, g12, g13, g14, g15, g16, g17, g18, g19, g20, g21, .ref a3, g22, g23, g24, g25, g26, g27, g28, g29, .int v12_m_k.1, .int v12_m_k.2.1, .int v12_m_k.2.2, g30, g31, g32])) :: bX11 a2 uq kq q_q ([(a3, .inl (cB34, 26, .inl m_v))])) := hD
                      refine lv_aload_n hx hb dX12_loads_143 rfl (lv_at hl 3 rfl) ?_
                      refine va_get (D := (dC, dI)) (ci := 9) (v := .int v12_m_k.2.1) (C := RX12) (T := TX12) (N := 30) hx hb hts ifX12_loads_X12 hown hK hP 0 rfl rfl 25 (by decide) (hts (.fieldLink RX12 436 "HookPierModel" "loaded" "I") (List.mem_of_getElem? (i := 1) rfl)) (fun _ h9 => h9) rfl dX12_loads_144 ?_
                      obtain ⟨o147, eo147, h⟩ := bd_of h
                      refine cl_i (wc := []) (wr := ((a0, .inr (9, [g8, g9, g10, .ref a2, g11, g12, g13, g14, g15, g16, g17, g18, g19, g20, g21, .ref a3, g22, g23, g24, g25, g26, g27, g28, g29, .int v12_m_k.1, .int v12_m_k.2.1, .int v12_m_k.2.2, g30, g31, g32])) :: bX11 a2 uq kq q_q ([(a3, .inl (cB34, 26, .inl m_v))]))) (va_runS (As := [.int v12_m_k.2.1]) (rest := [.int o140]) ⟨hx, hb, hml, hown, hts⟩ (kfX12_bits l dC dI v12_m_k.2.1 H.size o147 eo147) (va_cwS 1 hts gfX12_loads_0 rfl rfl rfl (by decide +kernel) ⟨(Nat.le_of_ble_eq_true rfl), (Nat.le_of_ble_eq_true rfl)⟩) (PS (hP.sub (ws' := []) [] rfl) (hK.sub (tys' := ([])) [] rfl) (hD.sub (ws' := []) [] (by decide) rfl) hN) rfl rfl hl.1 rfl (lv_room (Nat.le_of_ble_eq_true rfl)) dX12_loads_147 ⟨(Nat.le_of_ble_eq_true rfl), (Nat.le_of_ble_eq_true rfl)⟩) hP hD hK hS hA [] [0, 1, 2, 3, 4, 5, 6, 7, 8, 9, 10, 11, 12, 13, 14, 15, 16] rfl rfl (by decide) (by decide) (fun r147 _ H locs hw hP hD _ hS => ?_)
                      obtain rfl := hw.symm
                      have hP : va_P (dC, dI) vwCl ((a0, .inr (9, [g8, g9, g10, .ref a2, g11, g12, g13, g14, g15, g16, g17, g18, g19, g20, g21, .ref a3, g22, g23, g24, g25, g26, g27, g28, g29, .int v12_m_k.1, .int v12_m_k.2.1, .int v12_m_k.2.2, g30, g31, g32])) :: bX11 a2 uq kq q_q ([(a3, .inl (cB34, 26, .inl m_v))])) H := hP
                      have hD : va_D A ((a0, .inr (9, [g8, g9, g10, .ref a2, g11, g12, g13, g14, g15, g16, g17, g18, g19, g20, g21, .ref a3, g22, g23, g24, g25, g26, g27, g28, g29, .int v12_m_k.1, .int v12_m_k.2.1, .int v12_m_k.2.2, g30, g31, g32])) :: bX11 a2 uq kq q_q ([(a3, .inl (cB34, 26, .inl m_v))])) := hD
                      refine lv_icmp_lt (tgt := 156) hx hb dX12_loads_150 (by decide) (fun c150 => ?_) (fun c150 => ?_)
                      · have h := (if_pos c150).symm.trans h
                        exact J156  H _ ls h  hP hD hS (lv_sub hl [1, 2, 3, 4] rfl)
                      · have h := (if_neg c150).symm.trans h
                        refine lv_goto (tgt := 166) hx hb dX12_loads_153 (by decide) ?_
                        exact J166 v12_m_k H _ ls h  hP hD hS (lv_sub hl [2, 3, 4] rfl)
              refine lv_icmp_ge (tgt := 118) hx hb dX12_loads_54 (by decide) (fun c54 => ?_) (fun c54 => ?_)
              · have h := (if_pos c54).symm.trans h
                exact J118  H _ ls h  hP hD hS (lv_sub hl [1, 2, 3, 4, 5] rfl)
              · have h := (if_neg c54).symm.trans h
                refine lv_iload hx hb dX12_loads_57 (lv_at hl 1 rfl) ?_
                refine lv_if_eq (tgt := 118) hx hb dX12_loads_59 (by decide) (fun c59 => ?_) (fun c59 => ?_)
                · have h := (if_pos c59).symm.trans h
                  exact J118  H _ ls h  hP hD hS (lv_sub hl [1, 2, 3, 4, 5] rfl)
                · have h := (if_neg c59).symm.trans h
                  refine lv_iload_n hx hb dX12_loads_62 rfl (lv_at hl 3 rfl) ?_
                  refine lv_iload hx hb dX12_loads_63 (lv_at hl 0 rfl) ?_
                  obtain ⟨o65, eo65⟩ : ∃ o, o = f_X12_bit v12_l2 v45_l5 := ⟨_, rfl⟩
                  have h := nm_of h o65 eo65
                  refine cl_i (wc := []) (wr := ((a0, .inr (9, [g8, g9, g10, .ref a2, g11, g12, g13, g14, g15, g16, g17, g18, g19, g20, g21, .ref a3, g22, g23, g24, g25, g26, g27, g28, g29, .int v12_m_k.1, .int v12_m_k.2.1, .int v12_m_k.2.2, g30, g31, g32])) :: bX11 a2 uq kq q_q ([(a3, .inl (cB34, 26, .inl m_v))]))) (va_runS (As := [.int v12_l2, .int v45_l5]) (rest := []) ⟨hx, hb, hml, hown, hts⟩ (kfX12_bit l dC dI v12_l2 v45_l5 H.size o65 eo65.symm) (va_cwS 2 hts gfX12_loads_1 rfl rfl rfl (by decide +kernel) ⟨(Nat.le_of_ble_eq_true rfl), (Nat.le_of_ble_eq_true rfl)⟩) (PS (hP.sub (ws' := []) [] rfl) (hK.sub (tys' := ([])) [] rfl) (hD.sub (ws' := []) [] (by decide) rfl) hN) rfl rfl hl.1 rfl (lv_room (Nat.le_of_ble_eq_true rfl)) dX12_loads_65 ⟨(Nat.le_of_ble_eq_true rfl), (Nat.le_of_ble_eq_true rfl)⟩) hP hD hK hS hA [] [0, 1, 2, 3, 4, 5, 6, 7, 8, 9, 10, 11, 12, 13, 14, 15, 16] rfl rfl (by decide) (by decide) (fun r65 _ H locs hw hP hD _ hS => ?_)
                  obtain ⟨hw, br65⟩ := hw
                  obtain rfl := hw.symm
                  have hP : va_P (dC, dI) vwCl ((a0, .inr (9, [g8, g9, g10, .ref a2, g11, g12, g13, g14, g15, g16, g17, g18, g19, g20, g21, .ref a3, g22, g23, g24, g25, g26, g27, g28, g29, .int v12_m_k.1, .int v12_m_k.2.1, .int v12_m_k.2.2, g30, g31, g32])) :: bX11 a2 uq kq q_q ([(a3, .inl (cB34, 26, .inl m_v))])) H := hP
                  have hD : va_D A ((a0, .inr (9, [g8, g9, g10, .ref a2, g11, g12, g13, g14, g15, g16, g17, g18, g19, g20, g21, .ref a3, g22, g23, g24, g25, g26, g27, g28, g29, .int v12_m_k.1, .int v12_m_k.2.1, .int v12_m_k.2.2, g30, g31, g32])) :: bX11 a2 uq kq q_q ([(a3, .inl (cB34, 26, .inl m_v))])) := hD
                  have J112 : ∀ (v112_l4 : Int32) (v112_l3 : Int32) (H : Heap) (locs : List Loc) (ls : Array Slot), f_X12_loads_J112 (f_X12_loads_L45 m_v q_q (f_X12_loads_L12 k1 m_v q_q n12) v12_l2 v12_m_k n45) v45_l5 v112_l4 v112_l3 = some out → 0 ≤ v112_l4.toInt ∧ v112_l4.toInt ≤ 1 → va_P (dC, dI) vwCl ((a0, .inr (9, [g8, g9, g10, .ref a2, g11, g12, g13, g14, g15, g16, g17, g18, g19, g20, g21, .ref a3, g22, g23, g24, g25, g26, g27, g28, g29, .int v12_m_k.1, .int v12_m_k.2.1, .int v12_m_k.2.2, g30, g31, g32])) :: bX11 a2 uq kq q_q ([(a3, .inl (cB34, 26, .inl m_v))])) H → va_D A ((a0, .inr (9, [g8, g9, g10, .ref a2, g11, g12, g13, g14, g15, g16, g17, g18, g19, g20, g21, .ref a3, g22, g23, g24, g25, g26, g27, g28, g29, .int v12_m_k.1, .int v12_m_k.2.1, .int v12_m_k.2.2, g30, g31, g32])) :: bX11 a2 uq kq q_q ([(a3, .inl (cB34, 26, .inl m_v))])) → va_S A s.heap H locs → lv_has ls 6 [(5, .int v45_l5), (4, .int v112_l4), (3, .int v112_l3), (2, .int v12_l2), (0, .ref a0), (1, .int k1)] → W p l e (headSpec vfX12_loads { frames := 2, cells := 0, slots := 0, locals := 45 }).room s m ([.ref a0, .int k1]).toArray below meth c H locs 0 0 QQ (F0 m 112 ls []) := by
                    intro v112_l4 v112_l3 H locs ls h zb_v112_l4 hP hD hS hl
                    rw [f_X12_loads_J112] at h
                    refine lv_iinc (v := (v45_l5 + (1 : Int32))) (lv' := [(5, .int (v45_l5 + (1 : Int32))), (4, .int v112_l4), (3, .int v112_l3), (2, .int v12_l2), (0, .ref a0), (1, .int k1)]) hx hb dX12_loads_112 hl (k := 0) rfl rfl (by decide) rfl (fun ls hl => ?_)
                    refine lv_goto (tgt := 45) hx hb dX12_loads_115 (by decide) ?_
                    exact ih45 (v45_l5 + (1 : Int32)) v112_l4 v112_l3 H _ ls h zb_v112_l4 hP hD hS (lv_sub hl [0, 1, 2, 3, 4, 5] rfl)
                  refine lv_if_ne (tgt := 74) hx hb dX12_loads_68 (by decide) (fun c68 => ?_) (fun c68 => ?_)
                  · have h := (if_neg c68).symm.trans h
                    refine lv_aload_n hx hb dX12_loads_74 rfl (lv_at hl 4 rfl) ?_
                    refine va_get (D := (dC, dI)) (ci := 9) (v := .ref a3) (C := RX12) (T := TX12) (N := 30) hx hb hts ifX12_loads_X12 hown hK hP 0 rfl rfl 15 (by decide) (hts (.fieldLink RX12 17 "HookPierModel" "v" "[I") (List.mem_of_getElem? (i := 11) rfl)) (fun _ h9 => h9) rfl dX12_loads_75 ?_
                    refine lv_iconst (v := 0) hx hb dX12_loads_78 (by decide) ?_
                    refine lv_iload hx hb dX12_loads_79 (lv_at hl 0 rfl) ?_
                    refine lv_iadd hx hb dX12_loads_81 ?_
                    obtain ⟨hg82, h⟩ := gA_of h
                    refine va_iald hx hb hK hP 16 14 rfl rfl hg82 dX12_loads_82 ?_
                    refine lv_iconst (v := 1) hx hb dX12_loads_83 (by decide) ?_
                    have J92 : ∀ (v92_t0 : Int32) (H : Heap) (locs : List Loc) (ls : Array Slot), f_X12_loads_J92 m_v q_q (f_X12_loads_L45 m_v q_q (f_X12_loads_L12 k1 m_v q_q n12) v12_l2 v12_m_k n45) v45_l3 v45_l5 v92_t0 = some out → 0 ≤ v92_t0.toInt ∧ v92_t0.toInt ≤ 1 → va_P (dC, dI) vwCl ((a0, .inr (9, [g8, g9, g10, .ref a2, g11, g12, g13, g14, g15, g16, g17, g18, g19, g20, g21, .ref a3, g22, g23, g24, g25, g26, g27, g28, g29, .int v12_m_k.1, .int v12_m_k.2.1, .int v12_m_k.2.2, g30, g31, g32])) :: bX11 a2 uq kq q_q ([(a3, .inl (cB34, 26, .inl m_v))])) H → va_D A ((a0, .inr (9, [g8, g9, g10, .ref a2, g11, g12, g13, g14, g15, g16, g17, g18, g19, g20, g21, .ref a3, g22, g23, g24, g25, g26, g27, g28, g29, .int v12_m_k.1, .int v12_m_k.2.1, .int v12_m_k.2.2, g30, g31, g32])) :: bX11 a2 uq kq q_q ([(a3, .inl (cB34, 26, .inl m_v))])) → va_S A s.heap H locs → lv_has ls 6 [(5, .int v45_l5), (3, .int v45_l3), (2, .int v12_l2), (0, .ref a0), (1, .int k1)] → W p l e (headSpec vfX12_loads { frames := 2, cells := 0, slots := 0, locals := 45 }).room s m ([.ref a0, .int k1]).toArray below meth c H locs 0 0 QQ (F0 m 92 ls [.int v92_t0]) := by
                      intro v92_t0 H locs ls h zb_v92_t0 hP hD hS hl
                      rw [f_X12_loads_J92] at h
                      refine lv_istore (lv' := [(4, .int v92_t0), (5, .int v45_l5), (3, .int v45_l3), (2, .int v12_l2), (0, .ref a0), (1, .int k1)]) hx hb dX12_loads_92 hl (by decide) rfl (fun ls hl => ?_)
                      refine lv_iload_n hx hb dX12_loads_94 rfl (lv_at hl 2 rfl) ?_
                      refine lv_iload hx hb dX12_loads_95 (lv_at hl 0 rfl) ?_
                      have J110 : ∀ (v110_t1 : Int32) (H : Heap) (locs : List Loc) (ls : Array Slot), f_X12_loads_J110 (f_X12_loads_L45 m_v q_q (f_X12_loads_L12 k1 m_v q_q n12) v12_l2 v12_m_k n45) v45_l3 v45_l5 v92_t0 v110_t1 = some out → va_P (dC, dI) vwCl ((a0, .inr (9, [g8, g9, g10, .ref a2, g11, g12, g13, g14, g15, g16, g17, g18, g19, g20, g21, .ref a3, g22, g23, g24, g25, g26, g27, g28, g29, .int v12_m_k.1, .int v12_m_k.2.1, .int v12_m_k.2.2, g30, g31, g32])) :: bX11 a2 uq kq q_q ([(a3, .inl (cB34, 26, .inl m_v))])) H → va_D A ((a0, .inr (9, [g8, g9, g10, .ref a2, g11, g12, g13, g14, g15, g16, g17, g18, g19, g20, g21, .ref a3, g22, g23, g24, g25, g26, g27, g28, g29, .int v12_m_k.1, .int v12_m_k.2.1, .int v12_m_k.2.2, g30, g31, g32])) :: bX11 a2 uq kq q_q ([(a3, .inl (cB34, 26, .inl m_v))])) → va_S A s.heap H locs → lv_has ls 6 [(4, .int v92_t0), (5, .int v45_l5), (2, .int v12_l2), (0, .ref a0), (1, .int k1)] → W p l e (headSpec vfX12_loads { frames := 2, cells := 0, slots := 0, locals := 45 }).room s m ([.ref a0, .int k1]).toArray below meth c H locs 0 0 QQ (F0 m 110 ls [.int v110_t1, .int v45_l3]) := by
                        intro v110_t1 H locs ls h  hP hD hS hl
                        rw [f_X12_loads_J110] at h
                        refine lv_iadd hx hb dX12_loads_110 ?_
                        refine lv_istore_n (lv' := [(3, .int (v45_l3 + v110_t1)), (4, .int v92_t0), (5, .int v45_l5), (2, .int v12_l2), (0, .ref a0), (1, .int k1)]) hx hb dX12_loads_111 rfl hl (by decide) rfl (fun ls hl => ?_)
                        exact J112 v92_t0 (v45_l3 + v110_t1) H _ ls h zb_v92_t0 hP hD hS (lv_sub hl [2, 1, 0, 3, 4, 5] rfl)
                      refine lv_if_eq (tgt := 109) hx hb dX12_loads_97 (by decide) (fun c97 => ?_) (fun c97 => ?_)
                      · have h := (if_pos c97).symm.trans h
                        refine lv_iconst (v := 0) hx hb dX12_loads_109 (by decide) ?_
                        exact J110 (0 : Int32) H _ ls h  hP hD hS (lv_sub hl [0, 1, 3, 4, 5] rfl)
                      · have h := (if_neg c97).symm.trans h
                        refine lv_aload_n hx hb dX12_loads_100 rfl (lv_at hl 4 rfl) ?_
                        refine lv_iload hx hb dX12_loads_101 (lv_at hl 1 rfl) ?_
                        obtain ⟨o103, eo103, h⟩ := bd_of h
                        refine cl_i (wc := ((a0, .inr (9, [g8, g9, g10, .ref a2, g11, g12, g13, g14, g15, g16, g17, g18, g19, g20, g21, .ref a3, g22, g23, g24, g25, g26, g27, g28, g29, .int v12_m_k.1, .int v12_m_k.2.1, .int v12_m_k.2.2, g30, g31, g32])) :: bX11 a2 uq kq q_q ([(a3, .inl (cB34, 26, .inl m_v))]))) (wr := []) (va_runV (As := [.int v45_l5]) (rest := [.int v45_l3]) ⟨hx, hb, hml, hown, hts⟩ (kfX12_worthNow l dC dI a0 v45_l5 a2 a3 uq kq m_v (g8) (g9) (g10) (g11) (g12) (g13) (g14) (g15) (g16) (g17) (g18) (g19) (g20) (g21) (g22) (g23) (g24) (g25) (g26) (g27) (g28) (g29) (.int v12_m_k.1) (.int v12_m_k.2.1) (.int v12_m_k.2.2) (g30) (g31) (g32) q_q cB34 H.size o103 eo103) (cwV 1 hts gfX12_loads_2 rfl rfl rfl (by decide +kernel) ⟨(Nat.le_of_ble_eq_true rfl), (Nat.le_of_ble_eq_true rfl)⟩) (PV (hP.sub (ws' := ((a0, .inr (9, [g8, g9, g10, .ref a2, g11, g12, g13, g14, g15, g16, g17, g18, g19, g20, g21, .ref a3, g22, g23, g24, g25, g26, g27, g28, g29, .int v12_m_k.1, .int v12_m_k.2.1, .int v12_m_k.2.2, g30, g31, g32])) :: bX11 a2 uq kq q_q ([(a3, .inl (cB34, 26, .inl m_v))]))) [0, 1, 2, 3, 4, 5, 6, 7, 8, 9, 10, 11, 12, 13, 14, 15, 16] rfl) (hK.sub (tys' := (tX11 kq ((cB34, .int) :: []))) [0, 1, 2, 3, 4, 5, 6, 7, 8, 9, 10, 11, 12, 13, 14] rfl) (hD.sub (ws' := ((a0, .inr (9, [g8, g9, g10, .ref a2, g11, g12, g13, g14, g15, g16, g17, g18, g19, g20, g21, .ref a3, g22, g23, g24, g25, g26, g27, g28, g29, .int v12_m_k.1, .int v12_m_k.2.1, .int v12_m_k.2.2, g30, g31, g32])) :: bX11 a2 uq kq q_q ([(a3, .inl (cB34, 26, .inl m_v))]))) [0, 1, 2, 3, 4, 5, 6, 7, 8, 9, 10, 11, 12, 13, 14, 15, 16] (by decide) rfl) hN 0 rfl rfl) rfl rfl hl.1 rfl (lv_room (Nat.le_of_ble_eq_true rfl)) dX12_loads_103 ⟨(Nat.le_of_ble_eq_true rfl), (Nat.le_of_ble_eq_true rfl)⟩) hP hD hK hS hA [0, 1, 2, 3, 4, 5, 6, 7, 8, 9, 10, 11, 12, 13, 14, 15, 16] [] rfl rfl (by decide) (by decide) (fun r103 _ H locs hw hP hD _ hS => ?_)
                        obtain rfl := hw.symm
                        have hP : va_P (dC, dI) vwCl ((a0, .inr (9, [g8, g9, g10, .ref a2, g11, g12, g13, g14, g15, g16, g17, g18, g19, g20, g21, .ref a3, g22, g23, g24, g25, g26, g27, g28, g29, .int v12_m_k.1, .int v12_m_k.2.1, .int v12_m_k.2.2, g30, g31, g32])) :: bX11 a2 uq kq q_q ([(a3, .inl (cB34, 26, .inl m_v))])) H := hP
                        have hD : va_D A ((a0, .inr (9, [g8, g9, g10, .ref a2, g11, g12, g13, g14, g15, g16, g17, g18, g19, g20, g21, .ref a3, g22, g23, g24, g25, g26, g27, g28, g29, .int v12_m_k.1, .int v12_m_k.2.1, .int v12_m_k.2.2, g30, g31, g32])) :: bX11 a2 uq kq q_q ([(a3, .inl (cB34, 26, .inl m_v))])) := hD
                        refine lv_goto (tgt := 110) hx hb dX12_loads_106 (by decide) ?_
                        exact J110 o103 H _ ls h  hP hD hS (lv_sub hl [0, 1, 3, 4, 5] rfl)
                    refine lv_icmp_ne (tgt := 91) hx hb dX12_loads_84 (by decide) (fun c84 => ?_) (fun c84 => ?_)
                    · have h := (if_neg c84).symm.trans h
                      refine lv_iconst (v := 0) hx hb dX12_loads_91 (by decide) ?_
                      exact J92 (0 : Int32) H _ ls h (by decide) hP hD hS (lv_sub hl [0, 2, 3, 4, 5] rfl)
                    · have h := (if_pos c84).symm.trans h
                      refine lv_iconst (v := 1) hx hb dX12_loads_87 (by decide) ?_
                      refine lv_goto (tgt := 92) hx hb dX12_loads_88 (by decide) ?_
                      exact J92 (1 : Int32) H _ ls h (by decide) hP hD hS (lv_sub hl [0, 2, 3, 4, 5] rfl)
                  · have h := (if_pos c68).symm.trans h
                    refine lv_goto (tgt := 112) hx hb dX12_loads_71 (by decide) ?_
                    exact J112 v45_l4 v45_l3 H _ ls h zb_v45_l4 hP hD hS (lv_sub hl [0, 1, 2, 3, 4, 5] rfl)
          exact L45 FU (0 : Int32) v40_t0 (0 : Int32) H _ ls h zb_v40_t0 hP hD hS (lv_sub hl [0, 1, 2, 3, 4, 5] rfl)
        refine lv_icmp_gt (tgt := 39) hx hb dX12_loads_32 (by decide) (fun c32 => ?_) (fun c32 => ?_)
        · have h := (if_pos c32).symm.trans h
          refine lv_iconst (v := 0) hx hb dX12_loads_39 (by decide) ?_
          exact J40 (0 : Int32) H _ ls h (by decide) hP hD hS (lv_sub hl [0, 1, 2, 3] rfl)
        · have h := (if_neg c32).symm.trans h
          refine lv_iconst (v := 1) hx hb dX12_loads_35 (by decide) ?_
          refine lv_goto (tgt := 40) hx hb dX12_loads_36 (by decide) ?_
          exact J40 (1 : Int32) H _ ls h (by decide) hP hD hS (lv_sub hl [0, 1, 2, 3] rfl)
  exact L12 FU (1 : Int32) (m_k.1, (0 : Int32), (0 : Int32)) H _ ls h  hP hD hS (lv_sub hl [0, 1, 2] rfl)
theorem dX12_load_0 : decode cX12_load 0 = .ok (.aload_n 0, 1) := by decide +kernel
theorem dX12_load_1 : decode cX12_load 1 = .ok (.iconst 0, 1) := by decide +kernel
theorem dX12_load_10 : decode cX12_load 10 = .ok (.istore_n 2, 1) := by decide +kernel
theorem dX12_load_11 : decode cX12_load 11 = .ok (.iload_n 2, 1) := by decide +kernel
theorem dX12_load_12 : decode cX12_load 12 = .ok (.ifCond .le 9, 3) := by decide +kernel
theorem dX12_load_15 : decode cX12_load 15 = .ok (.aload_n 0, 1) := by decide +kernel
theorem dX12_load_16 : decode cX12_load 16 = .ok (.iload_n 2, 1) := by decide +kernel
theorem dX12_load_17 : decode cX12_load 17 = .ok (.invokevirtual 42, 3) := by decide +kernel
theorem dX12_load_2 : decode cX12_load 2 = .ok (.putfield 36, 3) := by decide +kernel
theorem dX12_load_20 : decode cX12_load 20 = .ok (.ireturn, 1) := by decide +kernel
theorem dX12_load_21 : decode cX12_load 21 = .ok (.aload_n 0, 1) := by decide +kernel
theorem dX12_load_22 : decode cX12_load 22 = .ok (.iload_n 1, 1) := by decide +kernel
theorem dX12_load_23 : decode cX12_load 23 = .ok (.invokevirtual 448, 3) := by decide +kernel
theorem dX12_load_26 : decode cX12_load 26 = .ok (.aload_n 0, 1) := by decide +kernel
theorem dX12_load_27 : decode cX12_load 27 = .ok (.aload_n 0, 1) := by decide +kernel
theorem dX12_load_28 : decode cX12_load 28 = .ok (.getfield 436, 3) := by decide +kernel
theorem dX12_load_31 : decode cX12_load 31 = .ok (.invokevirtual 46, 3) := by decide +kernel
theorem dX12_load_34 : decode cX12_load 34 = .ok (.ireturn, 1) := by decide +kernel
theorem dX12_load_5 : decode cX12_load 5 = .ok (.aload_n 0, 1) := by decide +kernel
theorem dX12_load_6 : decode cX12_load 6 = .ok (.iload_n 1, 1) := by decide +kernel
theorem dX12_load_7 : decode cX12_load 7 = .ok (.invokevirtual 445, 3) := by decide +kernel
def vfX12_load : List Cond := .code yX12_load cX12_load 3 (some .int) :: ([.fieldLink RX12 36 "HookPierModel" "thrown" "I", .methodLink RX12 445 yX12_refusesLoad, .instanceMethod yX12_refusesLoad, .selects RX12 yX12_refusesLoad yX12_refusesLoad, .initialized RX12, .code yX12_refusesLoad cX12_refusesLoad 2 (some .int), .fieldLink RX12 299 "HookPierModel" "pier" "LHookPierModel$Pier;", .methodLink RX12 115 yX12_in, .static yX12_in, .code yX12_in cX12_in 3 (some .boolean), .methodLink RX12 448 yX12_loads, .instanceMethod yX12_loads, .selects RX12 yX12_loads yX12_loads, .code yX12_loads cX12_loads 6 none, .fieldLink RX12 436 "HookPierModel" "loaded" "I", .fieldLink RX12 439 "HookPierModel" "loadedWorth" "I", .methodLink RX12 411 yX12_bits, .static yX12_bits, .code yX12_bits cX12_bits 3 (some .int), .methodLink RX12 390 yX12_bit, .static yX12_bit, .code yX12_bit cX12_bit 2 (some .boolean), .fieldLink RX12 17 "HookPierModel" "v" "[I", .methodLink RX12 442 yX12_worthNow, .instanceMethod yX12_worthNow, .selects RX12 yX12_worthNow yX12_worthNow, .code yX12_worthNow cX12_worthNow 2 (some .int), .methodLink RX12 323 yX12_keeps, .instanceMethod yX12_keeps, .selects RX12 yX12_keeps yX12_keeps, .code yX12_keeps cX12_keeps 5 (some .int), .methodLink RX12 46 yX12_good, .instanceMethod yX12_good, .selects RX12 yX12_good yX12_good, .code yX12_good cX12_good 2 (some .int), .fieldLink RX12 39 "HookPierModel" "trouble" "I", .fieldLink RX12 9 "HookPierModel" "where" "I", .methodLink RX12 42 yX12_refused, .instanceMethod yX12_refused, .selects RX12 yX12_refused yX12_refused, .code yX12_refused cX12_refused 2 (some .int)] ++ wsX120 ++ wsX110)
theorem ifX12_load_X12 : ∀ w ∈ wsX120, w ∈ vfX12_load := fun _ h => List.mem_cons_of_mem _ (List.mem_append_left _ (List.mem_append_right _ h))
theorem ifX12_load_X11 : ∀ w ∈ wsX110, w ∈ vfX12_load := fun _ h => List.mem_cons_of_mem _ (List.mem_append_right _ h)
set_option maxRecDepth 20000 in
theorem gfX12_load_0 : GoodIn vfX12_load (wsV RX12 445 RX12 yX12_refusesLoad vfX12_refusesLoad) := goodIn_app (goodIn_r [.methodLink RX12 445 yX12_refusesLoad, .instanceMethod yX12_refusesLoad, .selects RX12 yX12_refusesLoad yX12_refusesLoad, .initialized RX12] [2, 3, 4, 5] (by decide +kernel) (by decide +kernel)) (goodIn_ca (goodIn_r (.code yX12_refusesLoad cX12_refusesLoad 2 (some .int) :: [.fieldLink RX12 299 "HookPierModel" "pier" "LHookPierModel$Pier;", .methodLink RX12 115 yX12_in, .static yX12_in, .initialized RX12, .code yX12_in cX12_in 3 (some .boolean)]) [6, 7, 8, 9, 5, 10] (by decide +kernel) (by decide +kernel) : GoodIn vfX12_load (.code yX12_refusesLoad cX12_refusesLoad 2 (some .int) :: [.fieldLink RX12 299 "HookPierModel" "pier" "LHookPierModel$Pier;", .methodLink RX12 115 yX12_in, .static yX12_in, .initialized RX12, .code yX12_in cX12_in 3 (some .boolean)])) (goodIn_sub ifX12_load_X12 (by decide +kernel)))
set_option maxRecDepth 20000 in
theorem gfX12_load_1 : GoodIn vfX12_load (wsV RX12 448 RX12 yX12_loads vfX12_loads) := goodIn_app (goodIn_r [.methodLink RX12 448 yX12_loads, .instanceMethod yX12_loads, .selects RX12 yX12_loads yX12_loads, .initialized RX12] [11, 12, 13, 5] (by decide +kernel) (by decide +kernel)) (goodIn_ca (goodIn_ca (goodIn_r (.code yX12_loads cX12_loads 6 none :: [.fieldLink RX12 436 "HookPierModel" "loaded" "I", .fieldLink RX12 439 "HookPierModel" "loadedWorth" "I", .fieldLink RX12 299 "HookPierModel" "pier" "LHookPierModel$Pier;", .methodLink RX12 411 yX12_bits, .static yX12_bits, .initialized RX12, .code yX12_bits cX12_bits 3 (some .int), .methodLink RX12 390 yX12_bit, .static yX12_bit, .code yX12_bit cX12_bit 2 (some .boolean), .fieldLink RX12 17 "HookPierModel" "v" "[I", .methodLink RX12 442 yX12_worthNow, .instanceMethod yX12_worthNow, .selects RX12 yX12_worthNow yX12_worthNow, .code yX12_worthNow cX12_worthNow 2 (some .int), .methodLink RX12 323 yX12_keeps, .instanceMethod yX12_keeps, .selects RX12 yX12_keeps yX12_keeps, .code yX12_keeps cX12_keeps 5 (some .int)]) [14, 15, 16, 7, 17, 18, 5, 19, 20, 21, 22, 23, 24, 25, 26, 27, 28, 29, 30, 31] (by decide +kernel) (by decide +kernel) : GoodIn vfX12_load (.code yX12_loads cX12_loads 6 none :: [.fieldLink RX12 436 "HookPierModel" "loaded" "I", .fieldLink RX12 439 "HookPierModel" "loadedWorth" "I", .fieldLink RX12 299 "HookPierModel" "pier" "LHookPierModel$Pier;", .methodLink RX12 411 yX12_bits, .static yX12_bits, .initialized RX12, .code yX12_bits cX12_bits 3 (some .int), .methodLink RX12 390 yX12_bit, .static yX12_bit, .code yX12_bit cX12_bit 2 (some .boolean), .fieldLink RX12 17 "HookPierModel" "v" "[I", .methodLink RX12 442 yX12_worthNow, .instanceMethod yX12_worthNow, .selects RX12 yX12_worthNow yX12_worthNow, .code yX12_worthNow cX12_worthNow 2 (some .int), .methodLink RX12 323 yX12_keeps, .instanceMethod yX12_keeps, .selects RX12 yX12_keeps yX12_keeps, .code yX12_keeps cX12_keeps 5 (some .int)])) (goodIn_sub ifX12_load_X12 (by decide +kernel))) (goodIn_sub ifX12_load_X11 (by decide +kernel)))
set_option maxRecDepth 20000 in
theorem gfX12_load_2 : GoodIn vfX12_load (wsV RX12 46 RX12 yX12_good vfX12_good) := goodIn_app (goodIn_r [.methodLink RX12 46 yX12_good, .instanceMethod yX12_good, .selects RX12 yX12_good yX12_good, .initialized RX12] [32, 33, 34, 5] (by decide +kernel) (by decide +kernel)) (goodIn_ca (goodIn_r (.code yX12_good cX12_good 2 (some .int) :: [.fieldLink RX12 39 "HookPierModel" "trouble" "I", .fieldLink RX12 9 "HookPierModel" "where" "I"]) [35, 36, 37] (by decide +kernel) (by decide +kernel) : GoodIn vfX12_load (.code yX12_good cX12_good 2 (some .int) :: [.fieldLink RX12 39 "HookPierModel" "trouble" "I", .fieldLink RX12 9 "HookPierModel" "where" "I"])) (goodIn_sub ifX12_load_X12 (by decide +kernel)))
set_option maxRecDepth 20000 in
theorem gfX12_load_3 : GoodIn vfX12_load (wsV RX12 42 RX12 yX12_refused vfX12_refused) := goodIn_app (goodIn_r [.methodLink RX12 42 yX12_refused, .instanceMethod yX12_refused, .selects RX12 yX12_refused yX12_refused, .initialized RX12] [38, 39, 40, 5] (by decide +kernel) (by decide +kernel)) (goodIn_ca (goodIn_r (.code yX12_refused cX12_refused 2 (some .int) :: [.fieldLink RX12 39 "HookPierModel" "trouble" "I", .fieldLink RX12 9 "HookPierModel" "where" "I"]) [41, 36, 37] (by decide +kernel) (by decide +kernel) : GoodIn vfX12_load (.code yX12_refused cX12_refused 2 (some .int) :: [.fieldLink RX12 39 "HookPierModel" "trouble" "I", .fieldLink RX12 9 "HookPierModel" "where" "I"])) (goodIn_sub ifX12_load_X12 (by decide +kernel)))
set_option maxHeartbeats 2000000 in
set_option maxRecDepth 100000 in
theorem kfX12_load (l : Launch) (dC : Nat → ClassId) (dI : Nat → Nat → Nat) (a0 : Nat) (k1 : Int32) (a2 : Nat) (a3 : Nat) (uq : Nat → Nat) (kq : Nat → ClassId) (m_t : TX12_t) (m_v : TX12_v) (m_k : TX12_k) (g9 : Value) (g10 : Value) (g11 : Value) (g12 : Value) (g13 : Value) (g14 : Value) (g15 : Value) (g16 : Value) (g17 : Value) (g18 : Value) (g19 : Value) (g20 : Value) (g21 : Value) (g22 : Value) (g23 : Value) (g24 : Value) (g25 : Value) (g26 : Value) (g27 : Value) (g28 : Value) (g29 : Value) (g30 : Value) (q_q : TX11_q) (cB32 : ClassId) (sz : Nat) (out : (Int32 × TX12_t × TX12_k)) (h : f_X12_load k1 m_t m_v m_k q_q = some out) : Met l yX12_load vfX12_load ({ frames := 3, cells := 0, slots := 0, locals := 70 }) (PC (dC, dI) [.ref a0, .int k1] sz ((a0, .inr (9, [.int m_t.1, .int m_t.2.1, .int m_t.2.2, .ref a2, g9, g10, g11, g12, g13, g14, g15, g16, g17, g18, g19, .ref a3, g20, g21, g22, g23, g24, g25, g26, g27, .int m_k.1, .int m_k.2.1, .int m_k.2.2, g28, g29, g30])) :: bX11 a2 uq kq q_q ([(a3, .inl (cB32, 26, .inl m_v))])) (tX11 kq ((cB32, .int) :: []))) (va_Qi (S := Unit) (fun (r : Int32) _ => r = out.1) (fun _ t => BC (dC, dI) (va_A ((a0, .inr (9, [.int m_t.1, .int m_t.2.1, .int m_t.2.2, .ref a2, g9, g10, g11, g12, g13, g14, g15, g16, g17, g18, g19, .ref a3, g20, g21, g22, g23, g24, g25, g26, g27, .int m_k.1, .int m_k.2.1, .int m_k.2.2, g28, g29, g30])) :: bX11 a2 uq kq q_q ([(a3, .inl (cB32, 26, .inl m_v))])) sz) ((a0, .inr (9, [.int out.2.1.1, .int out.2.1.2.1, .int out.2.1.2.2, .ref a2, g9, g10, g11, g12, g13, g14, g15, g16, g17, g18, g19, .ref a3, g20, g21, g22, g23, g24, g25, g26, g27, .int out.2.2.1, .int out.2.2.2.1, .int out.2.2.2.2, g28, g29, g30])) :: bX11 a2 uq kq q_q ([(a3, .inl (cB32, 26, .inl m_v))])) [] t) (va_A ((a0, .inr (9, [.int m_t.1, .int m_t.2.1, .int m_t.2.2, .ref a2, g9, g10, g11, g12, g13, g14, g15, g16, g17, g18, g19, .ref a3, g20, g21, g22, g23, g24, g25, g26, g27, .int m_k.1, .int m_k.2.1, .int m_k.2.2, g28, g29, g30])) :: bX11 a2 uq kq q_q ([(a3, .inl (cB32, 26, .inl m_v))])) sz)) 0 0 (va_A ((a0, .inr (9, [.int m_t.1, .int m_t.2.1, .int m_t.2.2, .ref a2, g9, g10, g11, g12, g13, g14, g15, g16, g17, g18, g19, .ref a3, g20, g21, g22, g23, g24, g25, g26, g27, .int m_k.1, .int m_k.2.1, .int m_k.2.2, g28, g29, g30])) :: bX11 a2 uq kq q_q ([(a3, .inl (cB32, 26, .inl m_v))])) sz) := by
  refine Met.ofW (cc := cX12_load) (maxL := 3) (ret := (some .int)) (by decide) rfl ?_
  intro p e s m args below meth c s₁ B0 hml hv
  obtain ⟨rfl, hsz, hP, hK, hD0, hN⟩ := hv
  have hx := B0.exec
  have hb := B0.bytes
  have hr := B0.returns
  have hts := atoms_spec (ws := vfX12_load) B0.pre
  have hown : s.vm.findClass RX12 = some m.cls := findClass_of_methodNamed B0.named
  have hlocks := B0.notSynchronized
  subst hsz
  have hD := hD0.self (sz := s.heap.size)
  generalize hAe : va_A ((a0, .inr (9, [.int m_t.1, .int m_t.2.1, .int m_t.2.2, .ref a2, g9, g10, g11, g12, g13, g14, g15, g16, g17, g18, g19, .ref a3, g20, g21, g22, g23, g24, g25, g26, g27, .int m_k.1, .int m_k.2.1, .int m_k.2.2, g28, g29, g30])) :: bX11 a2 uq kq q_q ([(a3, .inl (cB32, 26, .inl m_v))])) s.heap.size = A at hD ⊢
  have hA : ∀ q : Nat, s.heap.size ≤ q → A q := fun q h => by rw [← hAe]; exact Or.inr h
  have hS : va_S A s.heap s.heap [] := va_S.rf
  have hP : va_P (dC, dI) vwCl ((a0, .inr (9, [.int m_t.1, .int m_t.2.1, .int m_t.2.2, .ref a2, g9, g10, g11, g12, g13, g14, g15, g16, g17, g18, g19, .ref a3, g20, g21, g22, g23, g24, g25, g26, g27, .int m_k.1, .int m_k.2.1, .int m_k.2.2, g28, g29, g30])) :: bX11 a2 uq kq q_q ([(a3, .inl (cB32, 26, .inl m_v))])) s.heap := hP
  have hl := lv_entry ([.ref a0, .int k1]) (n := 3) (Nat.le_of_ble_eq_true rfl)
  rw [lg_entry_eq]
  generalize (lg_sl ([.ref a0, .int k1]) ++ List.replicate (3 - (lg_sl ([.ref a0, .int k1])).length) Slot.unset).toArray = ls at hl ⊢
  have hl : lv_has ls 3 [(0, .ref a0), (1, .int k1)] := hl
  refine W_q (fun QQ hQQ => ?_)
  rw [f_X12_load] at h
  refine lv_aload_n hx hb dX12_load_0 rfl (lv_at hl 0 rfl) ?_
  refine lv_iconst (v := 0) hx hb dX12_load_1 (by decide) ?_
  refine va_put (D := (dC, dI)) (ci := 9) (v := .int 0) (ty := .int) (C := RX12) (T := TX12) (N := 30) hx hb hts ifX12_load_X12 tyX12 tyX12_ok nmX12 hown hK hP hD hS 0 rfl rfl 0 (by decide) (hts (.fieldLink RX12 36 "HookPierModel" "thrown" "I") (List.mem_of_getElem? (i := 1) rfl)) (fun _ h9 => h9) rfl (by decide +kernel) rfl rfl (Nat.le_of_ble_eq_true rfl) dX12_load_2 (fun H locs hP hD hS => ?_)
  have hP : va_P (dC, dI) vwCl ((a0, .inr (9, [.int 0, .int m_t.2.1, .int m_t.2.2, .ref a2, g9, g10, g11, g12, g13, g14, g15, g16, g17, g18, g19, .ref a3, g20, g21, g22, g23, g24, g25, g26, g27, .int m_k.1, .int m_k.2.1, .int m_k.2.2, g28, g29, g30])) :: bX11 a2 uq kq q_q ([(a3, .inl (cB32, 26, .inl m_v))])) H := hP
  have hD : va_D A ((a0, .inr (9, [.int 0, .int m_t.2.1, .int m_t.2.2, .ref a2, g9, g10, g11, g12, g13, g14, g15, g16, g17, g18, g19, .ref a3, g20, g21, g22, g23, g24, g25, g26, g27, .int m_k.1, .int m_k.2.1, .int m_k.2.2, g28, g29, g30])) :: bX11 a2 uq kq q_q ([(a3, .inl (cB32, 26, .inl m_v))])) := hD
  refine lv_aload_n hx hb dX12_load_5 rfl (lv_at hl 0 rfl) ?_
  refine lv_iload_n hx hb dX12_load_6 rfl (lv_at hl 1 rfl) ?_
  obtain ⟨o7, eo7⟩ : ∃ o, o = f_X12_refusesLoad k1 := ⟨_, rfl⟩
  have h := nm_of h o7 eo7
  refine cl_i (wc := ([(a0, .inr (9, [.int 0, .int m_t.2.1, .int m_t.2.2, .ref a2, g9, g10, g11, g12, g13, g14, g15, g16, g17, g18, g19, .ref a3, g20, g21, g22, g23, g24, g25, g26, g27, .int m_k.1, .int m_k.2.1, .int m_k.2.2, g28, g29, g30]))])) (wr := (bX11 a2 uq kq q_q ([(a3, .inl (cB32, 26, .inl m_v))]))) (va_runV (As := [.int k1]) (rest := []) ⟨hx, hb, hml, hown, hts⟩ (kfX12_refusesLoad l dC dI a0 k1 (.int 0) (.int m_t.2.1) (.int m_t.2.2) a2 (g9) (g10) (g11) (g12) (g13) (g14) (g15) (g16) (g17) (g18) (g19) (.ref a3) (g20) (g21) (g22) (g23) (g24) (g25) (g26) (g27) (.int m_k.1) (.int m_k.2.1) (.int m_k.2.2) (g28) (g29) (g30) H.size o7 eo7.symm) (cwV 1 hts gfX12_load_0 rfl rfl rfl (by decide +kernel) ⟨(Nat.le_of_ble_eq_true rfl), (Nat.le_of_ble_eq_true rfl)⟩) (PV (hP.sub (ws' := ([(a0, .inr (9, [.int 0, .int m_t.2.1, .int m_t.2.2, .ref a2, g9, g10, g11, g12, g13, g14, g15, g16, g17, g18, g19, .ref a3, g20, g21, g22, g23, g24, g25, g26, g27, .int m_k.1, .int m_k.2.1, .int m_k.2.2, g28, g29, g30]))])) [0] rfl) (hK.sub (tys' := ([])) [] rfl) (hD.sub (ws' := ([(a0, .inr (9, [.int 0, .int m_t.2.1, .int m_t.2.2, .ref a2, g9, g10, g11, g12, g13, g14, g15, g16, g17, g18, g19, .ref a3, g20, g21, g22, g23, g24, g25, g26, g27, .int m_k.1, .int m_k.2.1, .int m_k.2.2, g28, g29, g30]))])) [0] (by decide) rfl) hN 0 rfl rfl) rfl rfl hl.1 rfl (lv_room (Nat.le_of_ble_eq_true rfl)) dX12_load_7 ⟨(Nat.le_of_ble_eq_true rfl), (Nat.le_of_ble_eq_true rfl)⟩) hP hD hK hS hA [0] [1, 2, 3, 4, 5, 6, 7, 8, 9, 10, 11, 12, 13, 14, 15, 16] rfl rfl (by decide) (by decide) (fun r7 _ H locs hw hP hD _ hS => ?_)
  obtain rfl := hw.symm
  have hP : va_P (dC, dI) vwCl (bX11 a2 uq kq q_q ([(a3, .inl (cB32, 26, .inl m_v)), (a0, .inr (9, [.int 0, .int m_t.2.1, .int m_t.2.2, .ref a2, g9, g10, g11, g12, g13, g14, g15, g16, g17, g18, g19, .ref a3, g20, g21, g22, g23, g24, g25, g26, g27, .int m_k.1, .int m_k.2.1, .int m_k.2.2, g28, g29, g30]))])) H := hP
  have hD : va_D A (bX11 a2 uq kq q_q ([(a3, .inl (cB32, 26, .inl m_v)), (a0, .inr (9, [.int 0, .int m_t.2.1, .int m_t.2.2, .ref a2, g9, g10, g11, g12, g13, g14, g15, g16, g17, g18, g19, .ref a3, g20, g21, g22, g23, g24, g25, g26, g27, .int m_k.1, .int m_k.2.1, .int m_k.2.2, g28, g29, g30]))])) := hD
  refine lv_istore_n (lv' := [(2, .int o7), (0, .ref a0), (1, .int k1)]) hx hb dX12_load_10 rfl hl (by decide) rfl (fun ls hl => ?_)
  refine lv_iload_n hx hb dX12_load_11 rfl (lv_at hl 0 rfl) ?_
  refine lv_if_le (tgt := 21) hx hb dX12_load_12 (by decide) (fun c12 => ?_) (fun c12 => ?_)
  · have h := (if_pos c12).symm.trans h
    refine lv_aload_n hx hb dX12_load_21 rfl (lv_at hl 1 rfl) ?_
    refine lv_iload_n hx hb dX12_load_22 rfl (lv_at hl 2 rfl) ?_
    obtain ⟨o23, eo23, h⟩ := bd_of h
    refine cl_v (wc := ((a0, .inr (9, [.int 0, .int m_t.2.1, .int m_t.2.2, .ref a2, g9, g10, g11, g12, g13, g14, g15, g16, g17, g18, g19, .ref a3, g20, g21, g22, g23, g24, g25, g26, g27, .int m_k.1, .int m_k.2.1, .int m_k.2.2, g28, g29, g30])) :: bX11 a2 uq kq q_q ([(a3, .inl (cB32, 26, .inl m_v))]))) (wr := []) (va_runV (As := [.int k1]) (rest := []) ⟨hx, hb, hml, hown, hts⟩ (kfX12_loads l dC dI a0 k1 a2 a3 uq kq m_v m_k (.int 0) (.int m_t.2.1) (.int m_t.2.2) (g9) (g10) (g11) (g12) (g13) (g14) (g15) (g16) (g17) (g18) (g19) (g20) (g21) (g22) (g23) (g24) (g25) (g26) (g27) (g28) (g29) (g30) q_q cB32 H.size o23 eo23) (cwV 1 hts gfX12_load_1 rfl rfl rfl (by decide +kernel) ⟨(Nat.le_of_ble_eq_true rfl), (Nat.le_of_ble_eq_true rfl)⟩) (PV (hP.sub (ws' := ((a0, .inr (9, [.int 0, .int m_t.2.1, .int m_t.2.2, .ref a2, g9, g10, g11, g12, g13, g14, g15, g16, g17, g18, g19, .ref a3, g20, g21, g22, g23, g24, g25, g26, g27, .int m_k.1, .int m_k.2.1, .int m_k.2.2, g28, g29, g30])) :: bX11 a2 uq kq q_q ([(a3, .inl (cB32, 26, .inl m_v))]))) [16, 0, 1, 2, 3, 4, 5, 6, 7, 8, 9, 10, 11, 12, 13, 14, 15] rfl) (hK.sub (tys' := (tX11 kq ((cB32, .int) :: []))) [0, 1, 2, 3, 4, 5, 6, 7, 8, 9, 10, 11, 12, 13, 14] rfl) (hD.sub (ws' := ((a0, .inr (9, [.int 0, .int m_t.2.1, .int m_t.2.2, .ref a2, g9, g10, g11, g12, g13, g14, g15, g16, g17, g18, g19, .ref a3, g20, g21, g22, g23, g24, g25, g26, g27, .int m_k.1, .int m_k.2.1, .int m_k.2.2, g28, g29, g30])) :: bX11 a2 uq kq q_q ([(a3, .inl (cB32, 26, .inl m_v))]))) [16, 0, 1, 2, 3, 4, 5, 6, 7, 8, 9, 10, 11, 12, 13, 14, 15] (by decide) rfl) hN 0 rfl rfl) rfl rfl hl.1 rfl (lv_room (Nat.le_of_ble_eq_true rfl)) dX12_load_23 ⟨(Nat.le_of_ble_eq_true rfl), (Nat.le_of_ble_eq_true rfl)⟩) hP hD hK hS hA [16, 0, 1, 2, 3, 4, 5, 6, 7, 8, 9, 10, 11, 12, 13, 14, 15] [] rfl rfl (by decide) (by decide) (fun _ H locs hw hP hD _ hS => ?_)
    have hP : va_P (dC, dI) vwCl ((a0, .inr (9, [.int 0, .int m_t.2.1, .int m_t.2.2, .ref a2, g9, g10, g11, g12, g13, g14, g15, g16, g17, g18, g19, .ref a3, g20, g21, g22, g23, g24, g25, g26, g27, .int o23.1, .int o23.2.1, .int o23.2.2, g28, g29, g30])) :: bX11 a2 uq kq q_q ([(a3, .inl (cB32, 26, .inl m_v))])) H := hP
    have hD : va_D A ((a0, .inr (9, [.int 0, .int m_t.2.1, .int m_t.2.2, .ref a2, g9, g10, g11, g12, g13, g14, g15, g16, g17, g18, g19, .ref a3, g20, g21, g22, g23, g24, g25, g26, g27, .int o23.1, .int o23.2.1, .int o23.2.2, g28, g29, g30])) :: bX11 a2 uq kq q_q ([(a3, .inl (cB32, 26, .inl m_v))])) := hD
    refine lv_aload_n hx hb dX12_load_26 rfl (lv_at hl 1 rfl) ?_
    refine lv_aload_n hx hb dX12_load_27 rfl (lv_at hl 1 rfl) ?_
    refine va_get (D := (dC, dI)) (ci := 9) (v := .int o23.2.1) (C := RX12) (T := TX12) (N := 30) hx hb hts ifX12_load_X12 hown hK hP 0 rfl rfl 25 (by decide) (hts (.fieldLink RX12 436 "HookPierModel" "loaded" "I") (List.mem_of_getElem? (i := 15) rfl)) (fun _ h9 => h9) rfl dX12_load_28 ?_
    obtain ⟨o31, eo31⟩ : ∃ o, o = f_X12_good o23.2.1 ((0 : Int32), m_t.2) := ⟨_, rfl⟩
    have h := nm_of h o31 eo31
    refine cl_i (wc := ([(a0, .inr (9, [.int 0, .int m_t.2.1, .int m_t.2.2, .ref a2, g9, g10, g11, g12, g13, g14, g15, g16, g17, g18, g19, .ref a3, g20, g21, g22, g23, g24, g25, g26, g27, .int o23.1, .int o23.2.1, .int o23.2.2, g28, g29, g30]))])) (wr := (bX11 a2 uq kq q_q ([(a3, .inl (cB32, 26, .inl m_v))]))) (va_runV (As := [.int o23.2.1]) (rest := []) ⟨hx, hb, hml, hown, hts⟩ (kfX12_good l dC dI a0 o23.2.1 ((0 : Int32), m_t.2) (.ref a2) (g9) (g10) (g11) (g12) (g13) (g14) (g15) (g16) (g17) (g18) (g19) (.ref a3) (g20) (g21) (g22) (g23) (g24) (g25) (g26) (g27) (.int o23.1) (.int o23.2.1) (.int o23.2.2) (g28) (g29) (g30) H.size o31 eo31.symm) (cwV 1 hts gfX12_load_2 rfl rfl rfl (by decide +kernel) ⟨(Nat.le_of_ble_eq_true rfl), (Nat.le_of_ble_eq_true rfl)⟩) (PV (hP.sub (ws' := ([(a0, .inr (9, [.int 0, .int m_t.2.1, .int m_t.2.2, .ref a2, g9, g10, g11, g12, g13, g14, g15, g16, g17, g18, g19, .ref a3, g20, g21, g22, g23, g24, g25, g26, g27, .int o23.1, .int o23.2.1, .int o23.2.2, g28, g29, g30]))])) [0] rfl) (hK.sub (tys' := ([])) [] rfl) (hD.sub (ws' := ([(a0, .inr (9, [.int 0, .int m_t.2.1, .int m_t.2.2, .ref a2, g9, g10, g11, g12, g13, g14, g15, g16, g17, g18, g19, .ref a3, g20, g21, g22, g23, g24, g25, g26, g27, .int o23.1, .int o23.2.1, .int o23.2.2, g28, g29, g30]))])) [0] (by decide) rfl) hN 0 rfl rfl) rfl rfl hl.1 rfl (lv_room (Nat.le_of_ble_eq_true rfl)) dX12_load_31 ⟨(Nat.le_of_ble_eq_true rfl), (Nat.le_of_ble_eq_true rfl)⟩) hP hD hK hS hA [0] [1, 2, 3, 4, 5, 6, 7, 8, 9, 10, 11, 12, 13, 14, 15, 16] rfl rfl (by decide) (by decide) (fun r31 _ H locs hw hP hD _ hS => ?_)
    obtain rfl := hw
    have hP : va_P (dC, dI) vwCl (bX11 a2 uq kq q_q ([(a3, .inl (cB32, 26, .inl m_v)), (a0, .inr (9, [.int o31.2.1, .int o31.2.2.1, .int o31.2.2.2, .ref a2, g9, g10, g11, g12, g13, g14, g15, g16, g17, g18, g19, .ref a3, g20, g21, g22, g23, g24, g25, g26, g27, .int o23.1, .int o23.2.1, .int o23.2.2, g28, g29, g30]))])) H := hP
    have hD : va_D A (bX11 a2 uq kq q_q ([(a3, .inl (cB32, 26, .inl m_v)), (a0, .inr (9, [.int o31.2.1, .int o31.2.2.1, .int o31.2.2.2, .ref a2, g9, g10, g11, g12, g13, g14, g15, g16, g17, g18, g19, .ref a3, g20, g21, g22, g23, g24, g25, g26, g27, .int o23.1, .int o23.2.1, .int o23.2.2, g28, g29, g30]))])) := hD
    obtain rfl := Option.some.inj h
    have hP9 := hP.sub (ws' := ((a0, .inr (9, [.int o31.2.1, .int o31.2.2.1, .int o31.2.2.2, .ref a2, g9, g10, g11, g12, g13, g14, g15, g16, g17, g18, g19, .ref a3, g20, g21, g22, g23, g24, g25, g26, g27, .int o23.1, .int o23.2.1, .int o23.2.2, g28, g29, g30])) :: bX11 a2 uq kq q_q ([(a3, .inl (cB32, 26, .inl m_v))]))) [16, 0, 1, 2, 3, 4, 5, 6, 7, 8, 9, 10, 11, 12, 13, 14, 15] rfl
    have hD9 := hD.sub (ws' := ((a0, .inr (9, [.int o31.2.1, .int o31.2.2.1, .int o31.2.2.2, .ref a2, g9, g10, g11, g12, g13, g14, g15, g16, g17, g18, g19, .ref a3, g20, g21, g22, g23, g24, g25, g26, g27, .int o23.1, .int o23.2.1, .int o23.2.2, g28, g29, g30])) :: bX11 a2 uq kq q_q ([(a3, .inl (cB32, 26, .inl m_v))]))) [16, 0, 1, 2, 3, 4, 5, 6, 7, 8, 9, 10, 11, 12, 13, 14, 15] (by decide) rfl
    have hK9 := hK.sub (tys' := []) [] rfl
    rw [hQQ]
    exact W.iret (v := o31.1) hx hb hr (fun t ht hW => ⟨⟨o31.1, (), rfl, rfl, by rw [ht]; exact hP9, va_K.moved hW.alike hK9, hD9⟩, hS.F ht⟩) hS.2.2 dX12_load_34
  · have h := (if_neg c12).symm.trans h
    refine lv_aload_n hx hb dX12_load_15 rfl (lv_at hl 1 rfl) ?_
    refine lv_iload_n hx hb dX12_load_16 rfl (lv_at hl 0 rfl) ?_
    obtain ⟨o17, eo17⟩ : ∃ o, o = f_X12_refused o7 ((0 : Int32), m_t.2) := ⟨_, rfl⟩
    have h := nm_of h o17 eo17
    refine cl_i (wc := ([(a0, .inr (9, [.int 0, .int m_t.2.1, .int m_t.2.2, .ref a2, g9, g10, g11, g12, g13, g14, g15, g16, g17, g18, g19, .ref a3, g20, g21, g22, g23, g24, g25, g26, g27, .int m_k.1, .int m_k.2.1, .int m_k.2.2, g28, g29, g30]))])) (wr := (bX11 a2 uq kq q_q ([(a3, .inl (cB32, 26, .inl m_v))]))) (va_runV (As := [.int o7]) (rest := []) ⟨hx, hb, hml, hown, hts⟩ (kfX12_refused l dC dI a0 o7 ((0 : Int32), m_t.2) (.ref a2) (g9) (g10) (g11) (g12) (g13) (g14) (g15) (g16) (g17) (g18) (g19) (.ref a3) (g20) (g21) (g22) (g23) (g24) (g25) (g26) (g27) (.int m_k.1) (.int m_k.2.1) (.int m_k.2.2) (g28) (g29) (g30) H.size o17 eo17.symm) (cwV 1 hts gfX12_load_3 rfl rfl rfl (by decide +kernel) ⟨(Nat.le_of_ble_eq_true rfl), (Nat.le_of_ble_eq_true rfl)⟩) (PV (hP.sub (ws' := ([(a0, .inr (9, [.int 0, .int m_t.2.1, .int m_t.2.2, .ref a2, g9, g10, g11, g12, g13, g14, g15, g16, g17, g18, g19, .ref a3, g20, g21, g22, g23, g24, g25, g26, g27, .int m_k.1, .int m_k.2.1, .int m_k.2.2, g28, g29, g30]))])) [16] rfl) (hK.sub (tys' := ([])) [] rfl) (hD.sub (ws' := ([(a0, .inr (9, [.int 0, .int m_t.2.1, .int m_t.2.2, .ref a2, g9, g10, g11, g12, g13, g14, g15, g16, g17, g18, g19, .ref a3, g20, g21, g22, g23, g24, g25, g26, g27, .int m_k.1, .int m_k.2.1, .int m_k.2.2, g28, g29, g30]))])) [16] (by decide) rfl) hN 0 rfl rfl) rfl rfl hl.1 rfl (lv_room (Nat.le_of_ble_eq_true rfl)) dX12_load_17 ⟨(Nat.le_of_ble_eq_true rfl), (Nat.le_of_ble_eq_true rfl)⟩) hP hD hK hS hA [16] [0, 1, 2, 3, 4, 5, 6, 7, 8, 9, 10, 11, 12, 13, 14, 15] rfl rfl (by decide) (by decide) (fun r17 _ H locs hw hP hD _ hS => ?_)
    obtain rfl := hw
    have hP : va_P (dC, dI) vwCl (bX11 a2 uq kq q_q ([(a3, .inl (cB32, 26, .inl m_v)), (a0, .inr (9, [.int o17.1, .int o17.2.1, .int o17.2.2, .ref a2, g9, g10, g11, g12, g13, g14, g15, g16, g17, g18, g19, .ref a3, g20, g21, g22, g23, g24, g25, g26, g27, .int m_k.1, .int m_k.2.1, .int m_k.2.2, g28, g29, g30]))])) H := hP
    have hD : va_D A (bX11 a2 uq kq q_q ([(a3, .inl (cB32, 26, .inl m_v)), (a0, .inr (9, [.int o17.1, .int o17.2.1, .int o17.2.2, .ref a2, g9, g10, g11, g12, g13, g14, g15, g16, g17, g18, g19, .ref a3, g20, g21, g22, g23, g24, g25, g26, g27, .int m_k.1, .int m_k.2.1, .int m_k.2.2, g28, g29, g30]))])) := hD
    obtain rfl := Option.some.inj h
    have hP9 := hP.sub (ws' := ((a0, .inr (9, [.int o17.1, .int o17.2.1, .int o17.2.2, .ref a2, g9, g10, g11, g12, g13, g14, g15, g16, g17, g18, g19, .ref a3, g20, g21, g22, g23, g24, g25, g26, g27, .int m_k.1, .int m_k.2.1, .int m_k.2.2, g28, g29, g30])) :: bX11 a2 uq kq q_q ([(a3, .inl (cB32, 26, .inl m_v))]))) [16, 0, 1, 2, 3, 4, 5, 6, 7, 8, 9, 10, 11, 12, 13, 14, 15] rfl
    have hD9 := hD.sub (ws' := ((a0, .inr (9, [.int o17.1, .int o17.2.1, .int o17.2.2, .ref a2, g9, g10, g11, g12, g13, g14, g15, g16, g17, g18, g19, .ref a3, g20, g21, g22, g23, g24, g25, g26, g27, .int m_k.1, .int m_k.2.1, .int m_k.2.2, g28, g29, g30])) :: bX11 a2 uq kq q_q ([(a3, .inl (cB32, 26, .inl m_v))]))) [16, 0, 1, 2, 3, 4, 5, 6, 7, 8, 9, 10, 11, 12, 13, 14, 15] (by decide) rfl
    have hK9 := hK.sub (tys' := []) [] rfl
    rw [hQQ]
    exact W.iret (v := (-1 : Int32)) hx hb hr (fun t ht hW => ⟨⟨(-1 : Int32), (), rfl, rfl, by rw [ht]; exact hP9, va_K.moved hW.alike hK9, hD9⟩, hS.F ht⟩) hS.2.2 dX12_load_20
theorem dX12_loadWorth_0 : decode cX12_loadWorth 0 = .ok (.aload_n 0, 1) := by decide +kernel
theorem dX12_loadWorth_1 : decode cX12_loadWorth 1 = .ok (.iconst 0, 1) := by decide +kernel
theorem dX12_loadWorth_10 : decode cX12_loadWorth 10 = .ok (.istore_n 2, 1) := by decide +kernel
theorem dX12_loadWorth_11 : decode cX12_loadWorth 11 = .ok (.iload_n 2, 1) := by decide +kernel
theorem dX12_loadWorth_12 : decode cX12_loadWorth 12 = .ok (.ifCond .le 9, 3) := by decide +kernel
theorem dX12_loadWorth_15 : decode cX12_loadWorth 15 = .ok (.aload_n 0, 1) := by decide +kernel
theorem dX12_loadWorth_16 : decode cX12_loadWorth 16 = .ok (.iload_n 2, 1) := by decide +kernel
theorem dX12_loadWorth_17 : decode cX12_loadWorth 17 = .ok (.invokevirtual 42, 3) := by decide +kernel
theorem dX12_loadWorth_2 : decode cX12_loadWorth 2 = .ok (.putfield 36, 3) := by decide +kernel
theorem dX12_loadWorth_20 : decode cX12_loadWorth 20 = .ok (.ireturn, 1) := by decide +kernel
theorem dX12_loadWorth_21 : decode cX12_loadWorth 21 = .ok (.aload_n 0, 1) := by decide +kernel
theorem dX12_loadWorth_22 : decode cX12_loadWorth 22 = .ok (.iload_n 1, 1) := by decide +kernel
theorem dX12_loadWorth_23 : decode cX12_loadWorth 23 = .ok (.invokevirtual 448, 3) := by decide +kernel
theorem dX12_loadWorth_26 : decode cX12_loadWorth 26 = .ok (.aload_n 0, 1) := by decide +kernel
theorem dX12_loadWorth_27 : decode cX12_loadWorth 27 = .ok (.aload_n 0, 1) := by decide +kernel
theorem dX12_loadWorth_28 : decode cX12_loadWorth 28 = .ok (.getfield 439, 3) := by decide +kernel
theorem dX12_loadWorth_31 : decode cX12_loadWorth 31 = .ok (.invokevirtual 46, 3) := by decide +kernel
theorem dX12_loadWorth_34 : decode cX12_loadWorth 34 = .ok (.ireturn, 1) := by decide +kernel
theorem dX12_loadWorth_5 : decode cX12_loadWorth 5 = .ok (.aload_n 0, 1) := by decide +kernel
theorem dX12_loadWorth_6 : decode cX12_loadWorth 6 = .ok (.iload_n 1, 1) := by decide +kernel
theorem dX12_loadWorth_7 : decode cX12_loadWorth 7 = .ok (.invokevirtual 445, 3) := by decide +kernel
def vfX12_loadWorth : List Cond := .code yX12_loadWorth cX12_loadWorth 3 (some .int) :: ([.fieldLink RX12 36 "HookPierModel" "thrown" "I", .methodLink RX12 445 yX12_refusesLoad, .instanceMethod yX12_refusesLoad, .selects RX12 yX12_refusesLoad yX12_refusesLoad, .initialized RX12, .code yX12_refusesLoad cX12_refusesLoad 2 (some .int), .fieldLink RX12 299 "HookPierModel" "pier" "LHookPierModel$Pier;", .methodLink RX12 115 yX12_in, .static yX12_in, .code yX12_in cX12_in 3 (some .boolean), .methodLink RX12 448 yX12_loads, .instanceMethod yX12_loads, .selects RX12 yX12_loads yX12_loads, .code yX12_loads cX12_loads 6 none, .fieldLink RX12 436 "HookPierModel" "loaded" "I", .fieldLink RX12 439 "HookPierModel" "loadedWorth" "I", .methodLink RX12 411 yX12_bits, .static yX12_bits, .code yX12_bits cX12_bits 3 (some .int), .methodLink RX12 390 yX12_bit, .static yX12_bit, .code yX12_bit cX12_bit 2 (some .boolean), .fieldLink RX12 17 "HookPierModel" "v" "[I", .methodLink RX12 442 yX12_worthNow, .instanceMethod yX12_worthNow, .selects RX12 yX12_worthNow yX12_worthNow, .code yX12_worthNow cX12_worthNow 2 (some .int), .methodLink RX12 323 yX12_keeps, .instanceMethod yX12_keeps, .selects RX12 yX12_keeps yX12_keeps, .code yX12_keeps cX12_keeps 5 (some .int), .methodLink RX12 46 yX12_good, .instanceMethod yX12_good, .selects RX12 yX12_good yX12_good, .code yX12_good cX12_good 2 (some .int), .fieldLink RX12 39 "HookPierModel" "trouble" "I", .fieldLink RX12 9 "HookPierModel" "where" "I", .methodLink RX12 42 yX12_refused, .instanceMethod yX12_refused, .selects RX12 yX12_refused yX12_refused, .code yX12_refused cX12_refused 2 (some .int)] ++ wsX120 ++ wsX110)
theorem ifX12_loadWorth_X12 : ∀ w ∈ wsX120, w ∈ vfX12_loadWorth := fun _ h => List.mem_cons_of_mem _ (List.mem_append_left _ (List.mem_append_right _ h))
theorem ifX12_loadWorth_X11 : ∀ w ∈ wsX110, w ∈ vfX12_loadWorth := fun _ h => List.mem_cons_of_mem _ (List.mem_append_right _ h)
set_option maxRecDepth 20000 in
theorem gfX12_loadWorth_0 : GoodIn vfX12_loadWorth (wsV RX12 445 RX12 yX12_refusesLoad vfX12_refusesLoad) := goodIn_app (goodIn_r [.methodLink RX12 445 yX12_refusesLoad, .instanceMethod yX12_refusesLoad, .selects RX12 yX12_refusesLoad yX12_refusesLoad, .initialized RX12] [2, 3, 4, 5] (by decide +kernel) (by decide +kernel)) (goodIn_ca (goodIn_r (.code yX12_refusesLoad cX12_refusesLoad 2 (some .int) :: [.fieldLink RX12 299 "HookPierModel" "pier" "LHookPierModel$Pier;", .methodLink RX12 115 yX12_in, .static yX12_in, .initialized RX12, .code yX12_in cX12_in 3 (some .boolean)]) [6, 7, 8, 9, 5, 10] (by decide +kernel) (by decide +kernel) : GoodIn vfX12_loadWorth (.code yX12_refusesLoad cX12_refusesLoad 2 (some .int) :: [.fieldLink RX12 299 "HookPierModel" "pier" "LHookPierModel$Pier;", .methodLink RX12 115 yX12_in, .static yX12_in, .initialized RX12, .code yX12_in cX12_in 3 (some .boolean)])) (goodIn_sub ifX12_loadWorth_X12 (by decide +kernel)))
set_option maxRecDepth 20000 in
theorem gfX12_loadWorth_1 : GoodIn vfX12_loadWorth (wsV RX12 448 RX12 yX12_loads vfX12_loads) := goodIn_app (goodIn_r [.methodLink RX12 448 yX12_loads, .instanceMethod yX12_loads, .selects RX12 yX12_loads yX12_loads, .initialized RX12] [11, 12, 13, 5] (by decide +kernel) (by decide +kernel)) (goodIn_ca (goodIn_ca (goodIn_r (.code yX12_loads cX12_loads 6 none :: [.fieldLink RX12 436 "HookPierModel" "loaded" "I", .fieldLink RX12 439 "HookPierModel" "loadedWorth" "I", .fieldLink RX12 299 "HookPierModel" "pier" "LHookPierModel$Pier;", .methodLink RX12 411 yX12_bits, .static yX12_bits, .initialized RX12, .code yX12_bits cX12_bits 3 (some .int), .methodLink RX12 390 yX12_bit, .static yX12_bit, .code yX12_bit cX12_bit 2 (some .boolean), .fieldLink RX12 17 "HookPierModel" "v" "[I", .methodLink RX12 442 yX12_worthNow, .instanceMethod yX12_worthNow, .selects RX12 yX12_worthNow yX12_worthNow, .code yX12_worthNow cX12_worthNow 2 (some .int), .methodLink RX12 323 yX12_keeps, .instanceMethod yX12_keeps, .selects RX12 yX12_keeps yX12_keeps, .code yX12_keeps cX12_keeps 5 (some .int)]) [14, 15, 16, 7, 17, 18, 5, 19, 20, 21, 22, 23, 24, 25, 26, 27, 28, 29, 30, 31] (by decide +kernel) (by decide +kernel) : GoodIn vfX12_loadWorth (.code yX12_loads cX12_loads 6 none :: [.fieldLink RX12 436 "HookPierModel" "loaded" "I", .fieldLink RX12 439 "HookPierModel" "loadedWorth" "I", .fieldLink RX12 299 "HookPierModel" "pier" "LHookPierModel$Pier;", .methodLink RX12 411 yX12_bits, .static yX12_bits, .initialized RX12, .code yX12_bits cX12_bits 3 (some .int), .methodLink RX12 390 yX12_bit, .static yX12_bit, .code yX12_bit cX12_bit 2 (some .boolean), .fieldLink RX12 17 "HookPierModel" "v" "[I", .methodLink RX12 442 yX12_worthNow, .instanceMethod yX12_worthNow, .selects RX12 yX12_worthNow yX12_worthNow, .code yX12_worthNow cX12_worthNow 2 (some .int), .methodLink RX12 323 yX12_keeps, .instanceMethod yX12_keeps, .selects RX12 yX12_keeps yX12_keeps, .code yX12_keeps cX12_keeps 5 (some .int)])) (goodIn_sub ifX12_loadWorth_X12 (by decide +kernel))) (goodIn_sub ifX12_loadWorth_X11 (by decide +kernel)))
set_option maxRecDepth 20000 in
theorem gfX12_loadWorth_2 : GoodIn vfX12_loadWorth (wsV RX12 46 RX12 yX12_good vfX12_good) := goodIn_app (goodIn_r [.methodLink RX12 46 yX12_good, .instanceMethod yX12_good, .selects RX12 yX12_good yX12_good, .initialized RX12] [32, 33, 34, 5] (by decide +kernel) (by decide +kernel)) (goodIn_ca (goodIn_r (.code yX12_good cX12_good 2 (some .int) :: [.fieldLink RX12 39 "HookPierModel" "trouble" "I", .fieldLink RX12 9 "HookPierModel" "where" "I"]) [35, 36, 37] (by decide +kernel) (by decide +kernel) : GoodIn vfX12_loadWorth (.code yX12_good cX12_good 2 (some .int) :: [.fieldLink RX12 39 "HookPierModel" "trouble" "I", .fieldLink RX12 9 "HookPierModel" "where" "I"])) (goodIn_sub ifX12_loadWorth_X12 (by decide +kernel)))
set_option maxRecDepth 20000 in
theorem gfX12_loadWorth_3 : GoodIn vfX12_loadWorth (wsV RX12 42 RX12 yX12_refused vfX12_refused) := goodIn_app (goodIn_r [.methodLink RX12 42 yX12_refused, .instanceMethod yX12_refused, .selects RX12 yX12_refused yX12_refused, .initialized RX12] [38, 39, 40, 5] (by decide +kernel) (by decide +kernel)) (goodIn_ca (goodIn_r (.code yX12_refused cX12_refused 2 (some .int) :: [.fieldLink RX12 39 "HookPierModel" "trouble" "I", .fieldLink RX12 9 "HookPierModel" "where" "I"]) [41, 36, 37] (by decide +kernel) (by decide +kernel) : GoodIn vfX12_loadWorth (.code yX12_refused cX12_refused 2 (some .int) :: [.fieldLink RX12 39 "HookPierModel" "trouble" "I", .fieldLink RX12 9 "HookPierModel" "where" "I"])) (goodIn_sub ifX12_loadWorth_X12 (by decide +kernel)))
set_option maxHeartbeats 2000000 in
set_option maxRecDepth 100000 in
theorem kfX12_loadWorth (l : Launch) (dC : Nat → ClassId) (dI : Nat → Nat → Nat) (a0 : Nat) (k1 : Int32) (a2 : Nat) (a3 : Nat) (uq : Nat → Nat) (kq : Nat → ClassId) (m_t : TX12_t) (m_v : TX12_v) (m_k : TX12_k) (g9 : Value) (g10 : Value) (g11 : Value) (g12 : Value) (g13 : Value) (g14 : Value) (g15 : Value) (g16 : Value) (g17 : Value) (g18 : Value) (g19 : Value) (g20 : Value) (g21 : Value) (g22 : Value) (g23 : Value) (g24 : Value) (g25 : Value) (g26 : Value) (g27 : Value) (g28 : Value) (g29 : Value) (g30 : Value) (q_q : TX11_q) (cB32 : ClassId) (sz : Nat) (out : (Int32 × TX12_t × TX12_k)) (h : f_X12_loadWorth k1 m_t m_v m_k q_q = some out) : Met l yX12_loadWorth vfX12_loadWorth ({ frames := 3, cells := 0, slots := 0, locals := 70 }) (PC (dC, dI) [.ref a0, .int k1] sz ((a0, .inr (9, [.int m_t.1, .int m_t.2.1, .int m_t.2.2, .ref a2, g9, g10, g11, g12, g13, g14, g15, g16, g17, g18, g19, .ref a3, g20, g21, g22, g23, g24, g25, g26, g27, .int m_k.1, .int m_k.2.1, .int m_k.2.2, g28, g29, g30])) :: bX11 a2 uq kq q_q ([(a3, .inl (cB32, 26, .inl m_v))])) (tX11 kq ((cB32, .int) :: []))) (va_Qi (S := Unit) (fun (r : Int32) _ => r = out.1) (fun _ t => BC (dC, dI) (va_A ((a0, .inr (9, [.int m_t.1, .int m_t.2.1, .int m_t.2.2, .ref a2, g9, g10, g11, g12, g13, g14, g15, g16, g17, g18, g19, .ref a3, g20, g21, g22, g23, g24, g25, g26, g27, .int m_k.1, .int m_k.2.1, .int m_k.2.2, g28, g29, g30])) :: bX11 a2 uq kq q_q ([(a3, .inl (cB32, 26, .inl m_v))])) sz) ((a0, .inr (9, [.int out.2.1.1, .int out.2.1.2.1, .int out.2.1.2.2, .ref a2, g9, g10, g11, g12, g13, g14, g15, g16, g17, g18, g19, .ref a3, g20, g21, g22, g23, g24, g25, g26, g27, .int out.2.2.1, .int out.2.2.2.1, .int out.2.2.2.2, g28, g29, g30])) :: bX11 a2 uq kq q_q ([(a3, .inl (cB32, 26, .inl m_v))])) [] t) (va_A ((a0, .inr (9, [.int m_t.1, .int m_t.2.1, .int m_t.2.2, .ref a2, g9, g10, g11, g12, g13, g14, g15, g16, g17, g18, g19, .ref a3, g20, g21, g22, g23, g24, g25, g26, g27, .int m_k.1, .int m_k.2.1, .int m_k.2.2, g28, g29, g30])) :: bX11 a2 uq kq q_q ([(a3, .inl (cB32, 26, .inl m_v))])) sz)) 0 0 (va_A ((a0, .inr (9, [.int m_t.1, .int m_t.2.1, .int m_t.2.2, .ref a2, g9, g10, g11, g12, g13, g14, g15, g16, g17, g18, g19, .ref a3, g20, g21, g22, g23, g24, g25, g26, g27, .int m_k.1, .int m_k.2.1, .int m_k.2.2, g28, g29, g30])) :: bX11 a2 uq kq q_q ([(a3, .inl (cB32, 26, .inl m_v))])) sz) := by
  refine Met.ofW (cc := cX12_loadWorth) (maxL := 3) (ret := (some .int)) (by decide) rfl ?_
  intro p e s m args below meth c s₁ B0 hml hv
  obtain ⟨rfl, hsz, hP, hK, hD0, hN⟩ := hv
  have hx := B0.exec
  have hb := B0.bytes
  have hr := B0.returns
  have hts := atoms_spec (ws := vfX12_loadWorth) B0.pre
  have hown : s.vm.findClass RX12 = some m.cls := findClass_of_methodNamed B0.named
  have hlocks := B0.notSynchronized
  subst hsz
  have hD := hD0.self (sz := s.heap.size)
  generalize hAe : va_A ((a0, .inr (9, [.int m_t.1, .int m_t.2.1, .int m_t.2.2, .ref a2, g9, g10, g11, g12, g13, g14, g15, g16, g17, g18, g19, .ref a3, g20, g21, g22, g23, g24, g25, g26, g27, .int m_k.1, .int m_k.2.1, .int m_k.2.2, g28, g29, g30])) :: bX11 a2 uq kq q_q ([(a3, .inl (cB32, 26, .inl m_v))])) s.heap.size = A at hD ⊢
  have hA : ∀ q : Nat, s.heap.size ≤ q → A q := fun q h => by rw [← hAe]; exact Or.inr h
  have hS : va_S A s.heap s.heap [] := va_S.rf
  have hP : va_P (dC, dI) vwCl ((a0, .inr (9, [.int m_t.1, .int m_t.2.1, .int m_t.2.2, .ref a2, g9, g10, g11, g12, g13, g14, g15, g16, g17, g18, g19, .ref a3, g20, g21, g22, g23, g24, g25, g26, g27, .int m_k.1, .int m_k.2.1, .int m_k.2.2, g28, g29, g30])) :: bX11 a2 uq kq q_q ([(a3, .inl (cB32, 26, .inl m_v))])) s.heap := hP
  have hl := lv_entry ([.ref a0, .int k1]) (n := 3) (Nat.le_of_ble_eq_true rfl)
  rw [lg_entry_eq]
  generalize (lg_sl ([.ref a0, .int k1]) ++ List.replicate (3 - (lg_sl ([.ref a0, .int k1])).length) Slot.unset).toArray = ls at hl ⊢
  have hl : lv_has ls 3 [(0, .ref a0), (1, .int k1)] := hl
  refine W_q (fun QQ hQQ => ?_)
  rw [f_X12_loadWorth] at h
  refine lv_aload_n hx hb dX12_loadWorth_0 rfl (lv_at hl 0 rfl) ?_
  refine lv_iconst (v := 0) hx hb dX12_loadWorth_1 (by decide) ?_
  refine va_put (D := (dC, dI)) (ci := 9) (v := .int 0) (ty := .int) (C := RX12) (T := TX12) (N := 30) hx hb hts ifX12_loadWorth_X12 tyX12 tyX12_ok nmX12 hown hK hP hD hS 0 rfl rfl 0 (by decide) (hts (.fieldLink RX12 36 "HookPierModel" "thrown" "I") (List.mem_of_getElem? (i := 1) rfl)) (fun _ h9 => h9) rfl (by decide +kernel) rfl rfl (Nat.le_of_ble_eq_true rfl) dX12_loadWorth_2 (fun H locs hP hD hS => ?_)
  have hP : va_P (dC, dI) vwCl ((a0, .inr (9, [.int 0, .int m_t.2.1, .int m_t.2.2, .ref a2, g9, g10, g11, g12, g13, g14, g15, g16, g17, g18, g19, .ref a3, g20, g21, g22, g23, g24, g25, g26, g27, .int m_k.1, .int m_k.2.1, .int m_k.2.2, g28, g29, g30])) :: bX11 a2 uq kq q_q ([(a3, .inl (cB32, 26, .inl m_v))])) H := hP
  have hD : va_D A ((a0, .inr (9, [.int 0, .int m_t.2.1, .int m_t.2.2, .ref a2, g9, g10, g11, g12, g13, g14, g15, g16, g17, g18, g19, .ref a3, g20, g21, g22, g23, g24, g25, g26, g27, .int m_k.1, .int m_k.2.1, .int m_k.2.2, g28, g29, g30])) :: bX11 a2 uq kq q_q ([(a3, .inl (cB32, 26, .inl m_v))])) := hD
  refine lv_aload_n hx hb dX12_loadWorth_5 rfl (lv_at hl 0 rfl) ?_
  refine lv_iload_n hx hb dX12_loadWorth_6 rfl (lv_at hl 1 rfl) ?_
  obtain ⟨o7, eo7⟩ : ∃ o, o = f_X12_refusesLoad k1 := ⟨_, rfl⟩
  have h := nm_of h o7 eo7
  refine cl_i (wc := ([(a0, .inr (9, [.int 0, .int m_t.2.1, .int m_t.2.2, .ref a2, g9, g10, g11, g12, g13, g14, g15, g16, g17, g18, g19, .ref a3, g20, g21, g22, g23, g24, g25, g26, g27, .int m_k.1, .int m_k.2.1, .int m_k.2.2, g28, g29, g30]))])) (wr := (bX11 a2 uq kq q_q ([(a3, .inl (cB32, 26, .inl m_v))]))) (va_runV (As := [.int k1]) (rest := []) ⟨hx, hb, hml, hown, hts⟩ (kfX12_refusesLoad l dC dI a0 k1 (.int 0) (.int m_t.2.1) (.int m_t.2.2) a2 (g9) (g10) (g11) (g12) (g13) (g14) (g15) (g16) (g17) (g18) (g19) (.ref a3) (g20) (g21) (g22) (g23) (g24) (g25) (g26) (g27) (.int m_k.1) (.int m_k.2.1) (.int m_k.2.2) (g28) (g29) (g30) H.size o7 eo7.symm) (cwV 1 hts gfX12_loadWorth_0 rfl rfl rfl (by decide +kernel) ⟨(Nat.le_of_ble_eq_true rfl), (Nat.le_of_ble_eq_true rfl)⟩) (PV (hP.sub (ws' := ([(a0, .inr (9, [.int 0, .int m_t.2.1, .int m_t.2.2, .ref a2, g9, g10, g11, g12, g13, g14, g15, g16, g17, g18, g19, .ref a3, g20, g21, g22, g23, g24, g25, g26, g27, .int m_k.1, .int m_k.2.1, .int m_k.2.2, g28, g29, g30]))])) [0] rfl) (hK.sub (tys' := ([])) [] rfl) (hD.sub (ws' := ([(a0, .inr (9, [.int 0, .int m_t.2.1, .int m_t.2.2, .ref a2, g9, g10, g11, g12, g13, g14, g15, g16, g17, g18, g19, .ref a3, g20, g21, g22, g23, g24, g25, g26, g27, .int m_k.1, .int m_k.2.1, .int m_k.2.2, g28, g29, g30]))])) [0] (by decide) rfl) hN 0 rfl rfl) rfl rfl hl.1 rfl (lv_room (Nat.le_of_ble_eq_true rfl)) dX12_loadWorth_7 ⟨(Nat.le_of_ble_eq_true rfl), (Nat.le_of_ble_eq_true rfl)⟩) hP hD hK hS hA [0] [1, 2, 3, 4, 5, 6, 7, 8, 9, 10, 11, 12, 13, 14, 15, 16] rfl rfl (by decide) (by decide) (fun r7 _ H locs hw hP hD _ hS => ?_)
  obtain rfl := hw.symm
  have hP : va_P (dC, dI) vwCl (bX11 a2 uq kq q_q ([(a3, .inl (cB32, 26, .inl m_v)), (a0, .inr (9, [.int 0, .int m_t.2.1, .int m_t.2.2, .ref a2, g9, g10, g11, g12, g13, g14, g15, g16, g17, g18, g19, .ref a3, g20, g21, g22, g23, g24, g25, g26, g27, .int m_k.1, .int m_k.2.1, .int m_k.2.2, g28, g29, g30]))])) H := hP
  have hD : va_D A (bX11 a2 uq kq q_q ([(a3, .inl (cB32, 26, .inl m_v)), (a0, .inr (9, [.int 0, .int m_t.2.1, .int m_t.2.2, .ref a2, g9, g10, g11, g12, g13, g14, g15, g16, g17, g18, g19, .ref a3, g20, g21, g22, g23, g24, g25, g26, g27, .int m_k.1, .int m_k.2.1, .int m_k.2.2, g28, g29, g30]))])) := hD
  refine lv_istore_n (lv' := [(2, .int o7), (0, .ref a0), (1, .int k1)]) hx hb dX12_loadWorth_10 rfl hl (by decide) rfl (fun ls hl => ?_)
  refine lv_iload_n hx hb dX12_loadWorth_11 rfl (lv_at hl 0 rfl) ?_
  refine lv_if_le (tgt := 21) hx hb dX12_loadWorth_12 (by decide) (fun c12 => ?_) (fun c12 => ?_)
  · have h := (if_pos c12).symm.trans h
    refine lv_aload_n hx hb dX12_loadWorth_21 rfl (lv_at hl 1 rfl) ?_
    refine lv_iload_n hx hb dX12_loadWorth_22 rfl (lv_at hl 2 rfl) ?_
    obtain ⟨o23, eo23, h⟩ := bd_of h
    refine cl_v (wc := ((a0, .inr (9, [.int 0, .int m_t.2.1, .int m_t.2.2, .ref a2, g9, g10, g11, g12, g13, g14, g15, g16, g17, g18, g19, .ref a3, g20, g21, g22, g23, g24, g25, g26, g27, .int m_k.1, .int m_k.2.1, .int m_k.2.2, g28, g29, g30])) :: bX11 a2 uq kq q_q ([(a3, .inl (cB32, 26, .inl m_v))]))) (wr := []) (va_runV (As := [.int k1]) (rest := []) ⟨hx, hb, hml, hown, hts⟩ (kfX12_loads l dC dI a0 k1 a2 a3 uq kq m_v m_k (.int 0) (.int m_t.2.1) (.int m_t.2.2) (g9) (g10) (g11) (g12) (g13) (g14) (g15) (g16) (g17) (g18) (g19) (g20) (g21) (g22) (g23) (g24) (g25) (g26) (g27) (g28) (g29) (g30) q_q cB32 H.size o23 eo23) (cwV 1 hts gfX12_loadWorth_1 rfl rfl rfl (by decide +kernel) ⟨(Nat.le_of_ble_eq_true rfl), (Nat.le_of_ble_eq_true rfl)⟩) (PV (hP.sub (ws' := ((a0, .inr (9, [.int 0, .int m_t.2.1, .int m_t.2.2, .ref a2, g9, g10, g11, g12, g13, g14, g15, g16, g17, g18, g19, .ref a3, g20, g21, g22, g23, g24, g25, g26, g27, .int m_k.1, .int m_k.2.1, .int m_k.2.2, g28, g29, g30])) :: bX11 a2 uq kq q_q ([(a3, .inl (cB32, 26, .inl m_v))]))) [16, 0, 1, 2, 3, 4, 5, 6, 7, 8, 9, 10, 11, 12, 13, 14, 15] rfl) (hK.sub (tys' := (tX11 kq ((cB32, .int) :: []))) [0, 1, 2, 3, 4, 5, 6, 7, 8, 9, 10, 11, 12, 13, 14] rfl) (hD.sub (ws' := ((a0, .inr (9, [.int 0, .int m_t.2.1, .int m_t.2.2, .ref a2, g9, g10, g11, g12, g13, g14, g15, g16, g17, g18, g19, .ref a3, g20, g21, g22, g23, g24, g25, g26, g27, .int m_k.1, .int m_k.2.1, .int m_k.2.2, g28, g29, g30])) :: bX11 a2 uq kq q_q ([(a3, .inl (cB32, 26, .inl m_v))]))) [16, 0, 1, 2, 3, 4, 5, 6, 7, 8, 9, 10, 11, 12, 13, 14, 15] (by decide) rfl) hN 0 rfl rfl) rfl rfl hl.1 rfl (lv_room (Nat.le_of_ble_eq_true rfl)) dX12_loadWorth_23 ⟨(Nat.le_of_ble_eq_true rfl), (Nat.le_of_ble_eq_true rfl)⟩) hP hD hK hS hA [16, 0, 1, 2, 3, 4, 5, 6, 7, 8, 9, 10, 11, 12, 13, 14, 15] [] rfl rfl (by decide) (by decide) (fun _ H locs hw hP hD _ hS => ?_)
    have hP : va_P (dC, dI) vwCl ((a0, .inr (9, [.int 0, .int m_t.2.1, .int m_t.2.2, .ref a2, g9, g10, g11, g12, g13, g14, g15, g16, g17, g18, g19, .ref a3, g20, g21, g22, g23, g24, g25, g26, g27, .int o23.1, .int o23.2.1, .int o23.2.2, g28, g29, g30])) :: bX11 a2 uq kq q_q ([(a3, .inl (cB32, 26, .inl m_v))])) H := hP
    have hD : va_D A ((a0, .inr (9, [.int 0, .int m_t.2.1, .int m_t.2.2, .ref a2, g9, g10, g11, g12, g13, g14, g15, g16, g17, g18, g19, .ref a3, g20, g21, g22, g23, g24, g25, g26, g27, .int o23.1, .int o23.2.1, .int o23.2.2, g28, g29, g30])) :: bX11 a2 uq kq q_q ([(a3, .inl (cB32, 26, .inl m_v))])) := hD
    refine lv_aload_n hx hb dX12_loadWorth_26 rfl (lv_at hl 1 rfl) ?_
    refine lv_aload_n hx hb dX12_loadWorth_27 rfl (lv_at hl 1 rfl) ?_
    refine va_get (D := (dC, dI)) (ci := 9) (v := .int o23.2.2) (C := RX12) (T := TX12) (N := 30) hx hb hts ifX12_loadWorth_X12 hown hK hP 0 rfl rfl 26 (by decide) (hts (.fieldLink RX12 439 "HookPierModel" "loadedWorth" "I") (List.mem_of_getElem? (i := 16) rfl)) (fun _ h9 => h9) rfl dX12_loadWorth_28 ?_
    obtain ⟨o31, eo31⟩ : ∃ o, o = f_X12_good o23.2.2 ((0 : Int32), m_t.2) := ⟨_, rfl⟩
    have h := nm_of h o31 eo31
    refine cl_i (wc := ([(a0, .inr (9, [.int 0, .int m_t.2.1, .int m_t.2.2, .ref a2, g9, g10, g11, g12, g13, g14, g15, g16, g17, g18, g19, .ref a3, g20, g21, g22, g23, g24, g25, g26, g27, .int o23.1, .int o23.2.1, .int o23.2.2, g28, g29, g30]))])) (wr := (bX11 a2 uq kq q_q ([(a3, .inl (cB32, 26, .inl m_v))]))) (va_runV (As := [.int o23.2.2]) (rest := []) ⟨hx, hb, hml, hown, hts⟩ (kfX12_good l dC dI a0 o23.2.2 ((0 : Int32), m_t.2) (.ref a2) (g9) (g10) (g11) (g12) (g13) (g14) (g15) (g16) (g17) (g18) (g19) (.ref a3) (g20) (g21) (g22) (g23) (g24) (g25) (g26) (g27) (.int o23.1) (.int o23.2.1) (.int o23.2.2) (g28) (g29) (g30) H.size o31 eo31.symm) (cwV 1 hts gfX12_loadWorth_2 rfl rfl rfl (by decide +kernel) ⟨(Nat.le_of_ble_eq_true rfl), (Nat.le_of_ble_eq_true rfl)⟩) (PV (hP.sub (ws' := ([(a0, .inr (9, [.int 0, .int m_t.2.1, .int m_t.2.2, .ref a2, g9, g10, g11, g12, g13, g14, g15, g16, g17, g18, g19, .ref a3, g20, g21, g22, g23, g24, g25, g26, g27, .int o23.1, .int o23.2.1, .int o23.2.2, g28, g29, g30]))])) [0] rfl) (hK.sub (tys' := ([])) [] rfl) (hD.sub (ws' := ([(a0, .inr (9, [.int 0, .int m_t.2.1, .int m_t.2.2, .ref a2, g9, g10, g11, g12, g13, g14, g15, g16, g17, g18, g19, .ref a3, g20, g21, g22, g23, g24, g25, g26, g27, .int o23.1, .int o23.2.1, .int o23.2.2, g28, g29, g30]))])) [0] (by decide) rfl) hN 0 rfl rfl) rfl rfl hl.1 rfl (lv_room (Nat.le_of_ble_eq_true rfl)) dX12_loadWorth_31 ⟨(Nat.le_of_ble_eq_true rfl), (Nat.le_of_ble_eq_true rfl)⟩) hP hD hK hS hA [0] [1, 2, 3, 4, 5, 6, 7, 8, 9, 10, 11, 12, 13, 14, 15, 16] rfl rfl (by decide) (by decide) (fun r31 _ H locs hw hP hD _ hS => ?_)
    obtain rfl := hw
    have hP : va_P (dC, dI) vwCl (bX11 a2 uq kq q_q ([(a3, .inl (cB32, 26, .inl m_v)), (a0, .inr (9, [.int o31.2.1, .int o31.2.2.1, .int o31.2.2.2, .ref a2, g9, g10, g11, g12, g13, g14, g15, g16, g17, g18, g19, .ref a3, g20, g21, g22, g23, g24, g25, g26, g27, .int o23.1, .int o23.2.1, .int o23.2.2, g28, g29, g30]))])) H := hP
    have hD : va_D A (bX11 a2 uq kq q_q ([(a3, .inl (cB32, 26, .inl m_v)), (a0, .inr (9, [.int o31.2.1, .int o31.2.2.1, .int o31.2.2.2, .ref a2, g9, g10, g11, g12, g13, g14, g15, g16, g17, g18, g19, .ref a3, g20, g21, g22, g23, g24, g25, g26, g27, .int o23.1, .int o23.2.1, .int o23.2.2, g28, g29, g30]))])) := hD
    obtain rfl := Option.some.inj h
    have hP9 := hP.sub (ws' := ((a0, .inr (9, [.int o31.2.1, .int o31.2.2.1, .int o31.2.2.2, .ref a2, g9, g10, g11, g12, g13, g14, g15, g16, g17, g18, g19, .ref a3, g20, g21, g22, g23, g24, g25, g26, g27, .int o23.1, .int o23.2.1, .int o23.2.2, g28, g29, g30])) :: bX11 a2 uq kq q_q ([(a3, .inl (cB32, 26, .inl m_v))]))) [16, 0, 1, 2, 3, 4, 5, 6, 7, 8, 9, 10, 11, 12, 13, 14, 15] rfl
    have hD9 := hD.sub (ws' := ((a0, .inr (9, [.int o31.2.1, .int o31.2.2.1, .int o31.2.2.2, .ref a2, g9, g10, g11, g12, g13, g14, g15, g16, g17, g18, g19, .ref a3, g20, g21, g22, g23, g24, g25, g26, g27, .int o23.1, .int o23.2.1, .int o23.2.2, g28, g29, g30])) :: bX11 a2 uq kq q_q ([(a3, .inl (cB32, 26, .inl m_v))]))) [16, 0, 1, 2, 3, 4, 5, 6, 7, 8, 9, 10, 11, 12, 13, 14, 15] (by decide) rfl
    have hK9 := hK.sub (tys' := []) [] rfl
    rw [hQQ]
    exact W.iret (v := o31.1) hx hb hr (fun t ht hW => ⟨⟨o31.1, (), rfl, rfl, by rw [ht]; exact hP9, va_K.moved hW.alike hK9, hD9⟩, hS.F ht⟩) hS.2.2 dX12_loadWorth_34
  · have h := (if_neg c12).symm.trans h
    refine lv_aload_n hx hb dX12_loadWorth_15 rfl (lv_at hl 1 rfl) ?_
    refine lv_iload_n hx hb dX12_loadWorth_16 rfl (lv_at hl 0 rfl) ?_
    obtain ⟨o17, eo17⟩ : ∃ o, o = f_X12_refused o7 ((0 : Int32), m_t.2) := ⟨_, rfl⟩
    have h := nm_of h o17 eo17
    refine cl_i (wc := ([(a0, .inr (9, [.int 0, .int m_t.2.1, .int m_t.2.2, .ref a2, g9, g10, g11, g12, g13, g14, g15, g16, g17, g18, g19, .ref a3, g20, g21, g22, g23, g24, g25, g26, g27, .int m_k.1, .int m_k.2.1, .int m_k.2.2, g28, g29, g30]))])) (wr := (bX11 a2 uq kq q_q ([(a3, .inl (cB32, 26, .inl m_v))]))) (va_runV (As := [.int o7]) (rest := []) ⟨hx, hb, hml, hown, hts⟩ (kfX12_refused l dC dI a0 o7 ((0 : Int32), m_t.2) (.ref a2) (g9) (g10) (g11) (g12) (g13) (g14) (g15) (g16) (g17) (g18) (g19) (.ref a3) (g20) (g21) (g22) (g23) (g24) (g25) (g26) (g27) (.int m_k.1) (.int m_k.2.1) (.int m_k.2.2) (g28) (g29) (g30) H.size o17 eo17.symm) (cwV 1 hts gfX12_loadWorth_3 rfl rfl rfl (by decide +kernel) ⟨(Nat.le_of_ble_eq_true rfl), (Nat.le_of_ble_eq_true rfl)⟩) (PV (hP.sub (ws' := ([(a0, .inr (9, [.int 0, .int m_t.2.1, .int m_t.2.2, .ref a2, g9, g10, g11, g12, g13, g14, g15, g16, g17, g18, g19, .ref a3, g20, g21, g22, g23, g24, g25, g26, g27, .int m_k.1, .int m_k.2.1, .int m_k.2.2, g28, g29, g30]))])) [16] rfl) (hK.sub (tys' := ([])) [] rfl) (hD.sub (ws' := ([(a0, .inr (9, [.int 0, .int m_t.2.1, .int m_t.2.2, .ref a2, g9, g10, g11, g12, g13, g14, g15, g16, g17, g18, g19, .ref a3, g20, g21, g22, g23, g24, g25, g26, g27, .int m_k.1, .int m_k.2.1, .int m_k.2.2, g28, g29, g30]))])) [16] (by decide) rfl) hN 0 rfl rfl) rfl rfl hl.1 rfl (lv_room (Nat.le_of_ble_eq_true rfl)) dX12_loadWorth_17 ⟨(Nat.le_of_ble_eq_true rfl), (Nat.le_of_ble_eq_true rfl)⟩) hP hD hK hS hA [16] [0, 1, 2, 3, 4, 5, 6, 7, 8, 9, 10, 11, 12, 13, 14, 15] rfl rfl (by decide) (by decide) (fun r17 _ H locs hw hP hD _ hS => ?_)
    obtain rfl := hw
    have hP : va_P (dC, dI) vwCl (bX11 a2 uq kq q_q ([(a3, .inl (cB32, 26, .inl m_v)), (a0, .inr (9, [.int o17.1, .int o17.2.1, .int o17.2.2, .ref a2, g9, g10, g11, g12, g13, g14, g15, g16, g17, g18, g19, .ref a3, g20, g21, g22, g23, g24, g25, g26, g27, .int m_k.1, .int m_k.2.1, .int m_k.2.2, g28, g29, g30]))])) H := hP
    have hD : va_D A (bX11 a2 uq kq q_q ([(a3, .inl (cB32, 26, .inl m_v)), (a0, .inr (9, [.int o17.1, .int o17.2.1, .int o17.2.2, .ref a2, g9, g10, g11, g12, g13, g14, g15, g16, g17, g18, g19, .ref a3, g20, g21, g22, g23, g24, g25, g26, g27, .int m_k.1, .int m_k.2.1, .int m_k.2.2, g28, g29, g30]))])) := hD
    obtain rfl := Option.some.inj h
    have hP9 := hP.sub (ws' := ((a0, .inr (9, [.int o17.1, .int o17.2.1, .int o17.2.2, .ref a2, g9, g10, g11, g12, g13, g14, g15, g16, g17, g18, g19, .ref a3, g20, g21, g22, g23, g24, g25, g26, g27, .int m_k.1, .int m_k.2.1, .int m_k.2.2, g28, g29, g30])) :: bX11 a2 uq kq q_q ([(a3, .inl (cB32, 26, .inl m_v))]))) [16, 0, 1, 2, 3, 4, 5, 6, 7, 8, 9, 10, 11, 12, 13, 14, 15] rfl
    have hD9 := hD.sub (ws' := ((a0, .inr (9, [.int o17.1, .int o17.2.1, .int o17.2.2, .ref a2, g9, g10, g11, g12, g13, g14, g15, g16, g17, g18, g19, .ref a3, g20, g21, g22, g23, g24, g25, g26, g27, .int m_k.1, .int m_k.2.1, .int m_k.2.2, g28, g29, g30])) :: bX11 a2 uq kq q_q ([(a3, .inl (cB32, 26, .inl m_v))]))) [16, 0, 1, 2, 3, 4, 5, 6, 7, 8, 9, 10, 11, 12, 13, 14, 15] (by decide) rfl
    have hK9 := hK.sub (tys' := []) [] rfl
    rw [hQQ]
    exact W.iret (v := (-1 : Int32)) hx hb hr (fun t ht hW => ⟨⟨(-1 : Int32), (), rfl, rfl, by rw [ht]; exact hP9, va_K.moved hW.alike hK9, hD9⟩, hS.F ht⟩) hS.2.2 dX12_loadWorth_20
theorem dX12_bestDay_0 : decode cX12_bestDay 0 = .ok (.aload_n 0, 1) := by decide +kernel
theorem dX12_bestDay_1 : decode cX12_bestDay 1 = .ok (.iconst 0, 1) := by decide +kernel
theorem dX12_bestDay_101 : decode cX12_bestDay 101 = .ok (.iload 4, 2) := by decide +kernel
theorem dX12_bestDay_103 : decode cX12_bestDay 103 = .ok (.iload_n 2, 1) := by decide +kernel
theorem dX12_bestDay_104 : decode cX12_bestDay 104 = .ok (.if_icmp .gt 6, 3) := by decide +kernel
theorem dX12_bestDay_107 : decode cX12_bestDay 107 = .ok (.goto 8, 3) := by decide +kernel
theorem dX12_bestDay_110 : decode cX12_bestDay 110 = .ok (.iload 4, 2) := by decide +kernel
theorem dX12_bestDay_112 : decode cX12_bestDay 112 = .ok (.istore_n 2, 1) := by decide +kernel
theorem dX12_bestDay_113 : decode cX12_bestDay 113 = .ok (.iload_n 3, 1) := by decide +kernel
theorem dX12_bestDay_114 : decode cX12_bestDay 114 = .ok (.istore_n 1, 1) := by decide +kernel
theorem dX12_bestDay_115 : decode cX12_bestDay 115 = .ok (.iinc 3 1, 3) := by decide +kernel
theorem dX12_bestDay_118 : decode cX12_bestDay 118 = .ok (.goto (-94), 3) := by decide +kernel
theorem dX12_bestDay_121 : decode cX12_bestDay 121 = .ok (.aload_n 0, 1) := by decide +kernel
theorem dX12_bestDay_122 : decode cX12_bestDay 122 = .ok (.iload_n 1, 1) := by decide +kernel
theorem dX12_bestDay_123 : decode cX12_bestDay 123 = .ok (.invokevirtual 46, 3) := by decide +kernel
theorem dX12_bestDay_126 : decode cX12_bestDay 126 = .ok (.ireturn, 1) := by decide +kernel
theorem dX12_bestDay_18 : decode cX12_bestDay 18 = .ok (.iconst 0, 1) := by decide +kernel
theorem dX12_bestDay_19 : decode cX12_bestDay 19 = .ok (.istore_n 1, 1) := by decide +kernel
theorem dX12_bestDay_2 : decode cX12_bestDay 2 = .ok (.putfield 36, 3) := by decide +kernel
theorem dX12_bestDay_20 : decode cX12_bestDay 20 = .ok (.iconst (-1), 1) := by decide +kernel
theorem dX12_bestDay_21 : decode cX12_bestDay 21 = .ok (.istore_n 2, 1) := by decide +kernel
theorem dX12_bestDay_22 : decode cX12_bestDay 22 = .ok (.iconst 0, 1) := by decide +kernel
theorem dX12_bestDay_23 : decode cX12_bestDay 23 = .ok (.istore_n 3, 1) := by decide +kernel
theorem dX12_bestDay_24 : decode cX12_bestDay 24 = .ok (.iload_n 3, 1) := by decide +kernel
theorem dX12_bestDay_25 : decode cX12_bestDay 25 = .ok (.bipush 20, 2) := by decide +kernel
theorem dX12_bestDay_27 : decode cX12_bestDay 27 = .ok (.if_icmp .gt 94, 3) := by decide +kernel
theorem dX12_bestDay_30 : decode cX12_bestDay 30 = .ok (.iconst 0, 1) := by decide +kernel
theorem dX12_bestDay_31 : decode cX12_bestDay 31 = .ok (.istore 4, 2) := by decide +kernel
theorem dX12_bestDay_33 : decode cX12_bestDay 33 = .ok (.iconst 0, 1) := by decide +kernel
theorem dX12_bestDay_34 : decode cX12_bestDay 34 = .ok (.istore 5, 2) := by decide +kernel
theorem dX12_bestDay_36 : decode cX12_bestDay 36 = .ok (.iload 5, 2) := by decide +kernel
theorem dX12_bestDay_38 : decode cX12_bestDay 38 = .ok (.aload_n 0, 1) := by decide +kernel
theorem dX12_bestDay_39 : decode cX12_bestDay 39 = .ok (.getfield 299, 3) := by decide +kernel
theorem dX12_bestDay_42 : decode cX12_bestDay 42 = .ok (.getfield 231, 3) := by decide +kernel
theorem dX12_bestDay_45 : decode cX12_bestDay 45 = .ok (.if_icmp .ge 56, 3) := by decide +kernel
theorem dX12_bestDay_48 : decode cX12_bestDay 48 = .ok (.iload 4, 2) := by decide +kernel
theorem dX12_bestDay_5 : decode cX12_bestDay 5 = .ok (.aload_n 0, 1) := by decide +kernel
theorem dX12_bestDay_50 : decode cX12_bestDay 50 = .ok (.aload_n 0, 1) := by decide +kernel
theorem dX12_bestDay_51 : decode cX12_bestDay 51 = .ok (.getfield 17, 3) := by decide +kernel
theorem dX12_bestDay_54 : decode cX12_bestDay 54 = .ok (.iconst 0, 1) := by decide +kernel
theorem dX12_bestDay_55 : decode cX12_bestDay 55 = .ok (.iload 5, 2) := by decide +kernel
theorem dX12_bestDay_57 : decode cX12_bestDay 57 = .ok (.iadd, 1) := by decide +kernel
theorem dX12_bestDay_58 : decode cX12_bestDay 58 = .ok (.iaload, 1) := by decide +kernel
theorem dX12_bestDay_59 : decode cX12_bestDay 59 = .ok (.iconst 1, 1) := by decide +kernel
theorem dX12_bestDay_6 : decode cX12_bestDay 6 = .ok (.getfield 299, 3) := by decide +kernel
theorem dX12_bestDay_60 : decode cX12_bestDay 60 = .ok (.if_icmp .ne 31, 3) := by decide +kernel
theorem dX12_bestDay_63 : decode cX12_bestDay 63 = .ok (.aload_n 0, 1) := by decide +kernel
theorem dX12_bestDay_64 : decode cX12_bestDay 64 = .ok (.iload 5, 2) := by decide +kernel
theorem dX12_bestDay_66 : decode cX12_bestDay 66 = .ok (.aload_n 0, 1) := by decide +kernel
theorem dX12_bestDay_67 : decode cX12_bestDay 67 = .ok (.getfield 17, 3) := by decide +kernel
theorem dX12_bestDay_70 : decode cX12_bestDay 70 = .ok (.bipush 6, 2) := by decide +kernel
theorem dX12_bestDay_72 : decode cX12_bestDay 72 = .ok (.iload 5, 2) := by decide +kernel
theorem dX12_bestDay_74 : decode cX12_bestDay 74 = .ok (.iadd, 1) := by decide +kernel
theorem dX12_bestDay_75 : decode cX12_bestDay 75 = .ok (.iaload, 1) := by decide +kernel
theorem dX12_bestDay_76 : decode cX12_bestDay 76 = .ok (.aload_n 0, 1) := by decide +kernel
theorem dX12_bestDay_77 : decode cX12_bestDay 77 = .ok (.getfield 17, 3) := by decide +kernel
theorem dX12_bestDay_80 : decode cX12_bestDay 80 = .ok (.bipush 23, 2) := by decide +kernel
theorem dX12_bestDay_82 : decode cX12_bestDay 82 = .ok (.iaload, 1) := by decide +kernel
theorem dX12_bestDay_83 : decode cX12_bestDay 83 = .ok (.iload_n 3, 1) := by decide +kernel
theorem dX12_bestDay_84 : decode cX12_bestDay 84 = .ok (.iadd, 1) := by decide +kernel
theorem dX12_bestDay_85 : decode cX12_bestDay 85 = .ok (.invokevirtual 323, 3) := by decide +kernel
theorem dX12_bestDay_88 : decode cX12_bestDay 88 = .ok (.goto 4, 3) := by decide +kernel
theorem dX12_bestDay_9 : decode cX12_bestDay 9 = .ok (.ifnonnull 9, 3) := by decide +kernel
theorem dX12_bestDay_91 : decode cX12_bestDay 91 = .ok (.iconst 0, 1) := by decide +kernel
theorem dX12_bestDay_92 : decode cX12_bestDay 92 = .ok (.iadd, 1) := by decide +kernel
theorem dX12_bestDay_93 : decode cX12_bestDay 93 = .ok (.istore 4, 2) := by decide +kernel
theorem dX12_bestDay_95 : decode cX12_bestDay 95 = .ok (.iinc 5 1, 3) := by decide +kernel
theorem dX12_bestDay_98 : decode cX12_bestDay 98 = .ok (.goto (-62), 3) := by decide +kernel
def vfX12_bestDay : List Cond := .code yX12_bestDay cX12_bestDay 6 (some .int) :: ([.fieldLink RX12 36 "HookPierModel" "thrown" "I", .fieldLink RX12 299 "HookPierModel" "pier" "LHookPierModel$Pier;", .methodLink RX12 46 yX12_good, .instanceMethod yX12_good, .selects RX12 yX12_good yX12_good, .initialized RX12, .code yX12_good cX12_good 2 (some .int), .fieldLink RX12 39 "HookPierModel" "trouble" "I", .fieldLink RX12 9 "HookPierModel" "where" "I", .fieldLink RX12 17 "HookPierModel" "v" "[I", .methodLink RX12 323 yX12_keeps, .instanceMethod yX12_keeps, .selects RX12 yX12_keeps yX12_keeps, .code yX12_keeps cX12_keeps 5 (some .int)] ++ wsX120 ++ wsX110)
theorem ifX12_bestDay_X12 : ∀ w ∈ wsX120, w ∈ vfX12_bestDay := fun _ h => List.mem_cons_of_mem _ (List.mem_append_left _ (List.mem_append_right _ h))
theorem ifX12_bestDay_X11 : ∀ w ∈ wsX110, w ∈ vfX12_bestDay := fun _ h => List.mem_cons_of_mem _ (List.mem_append_right _ h)
set_option maxRecDepth 20000 in
theorem gfX12_bestDay_0 : GoodIn vfX12_bestDay (wsV RX12 46 RX12 yX12_good vfX12_good) := goodIn_app (goodIn_r [.methodLink RX12 46 yX12_good, .instanceMethod yX12_good, .selects RX12 yX12_good yX12_good, .initialized RX12] [3, 4, 5, 6] (by decide +kernel) (by decide +kernel)) (goodIn_ca (goodIn_r (.code yX12_good cX12_good 2 (some .int) :: [.fieldLink RX12 39 "HookPierModel" "trouble" "I", .fieldLink RX12 9 "HookPierModel" "where" "I"]) [7, 8, 9] (by decide +kernel) (by decide +kernel) : GoodIn vfX12_bestDay (.code yX12_good cX12_good 2 (some .int) :: [.fieldLink RX12 39 "HookPierModel" "trouble" "I", .fieldLink RX12 9 "HookPierModel" "where" "I"])) (goodIn_sub ifX12_bestDay_X12 (by decide +kernel)))
set_option maxRecDepth 20000 in
theorem gfX12_bestDay_1 : GoodIn vfX12_bestDay (wsV RX12 323 RX12 yX12_keeps vfX12_keeps) := goodIn_app (goodIn_r [.methodLink RX12 323 yX12_keeps, .instanceMethod yX12_keeps, .selects RX12 yX12_keeps yX12_keeps, .initialized RX12] [11, 12, 13, 6] (by decide +kernel) (by decide +kernel)) (goodIn_ca (goodIn_ca (goodIn_r (.code yX12_keeps cX12_keeps 5 (some .int) :: [.fieldLink RX12 299 "HookPierModel" "pier" "LHookPierModel$Pier;"]) [14, 2] (by decide +kernel) (by decide +kernel) : GoodIn vfX12_bestDay (.code yX12_keeps cX12_keeps 5 (some .int) :: [.fieldLink RX12 299 "HookPierModel" "pier" "LHookPierModel$Pier;"])) (goodIn_sub ifX12_bestDay_X12 (by decide +kernel))) (goodIn_sub ifX12_bestDay_X11 (by decide +kernel)))
set_option maxHeartbeats 2000000 in
set_option maxRecDepth 100000 in
theorem kfX12_bestDay (l : Launch) (dC : Nat → ClassId) (dI : Nat → Nat → Nat) (a0 : Nat) (a1 : Nat) (a2 : Nat) (uq : Nat → Nat) (kq : Nat → ClassId) (m_t : TX12_t) (m_v : TX12_v) (g7 : Value) (g8 : Value) (g9 : Value) (g10 : Value) (g11 : Value) (g12 : Value) (g13 : Value) (g14 : Value) (g15 : Value) (g16 : Value) (g17 : Value) (g18 : Value) (g19 : Value) (g20 : Value) (g21 : Value) (g22 : Value) (g23 : Value) (g24 : Value) (g25 : Value) (g26 : Value) (g27 : Value) (g28 : Value) (g29 : Value) (g30 : Value) (g31 : Value) (q_q : TX11_q) (cB33 : ClassId) (sz : Nat) (out : (Int32 × TX12_t)) (h : f_X12_bestDay m_t m_v q_q = some out) : Met l yX12_bestDay vfX12_bestDay ({ frames := 1, cells := 0, slots := 0, locals := 24 }) (PC (dC, dI) [.ref a0] sz ((a0, .inr (9, [.int m_t.1, .int m_t.2.1, .int m_t.2.2, .ref a1, g7, g8, g9, g10, g11, g12, g13, g14, g15, g16, g17, .ref a2, g18, g19, g20, g21, g22, g23, g24, g25, g26, g27, g28, g29, g30, g31])) :: bX11 a1 uq kq q_q ([(a2, .inl (cB33, 26, .inl m_v))])) (tX11 kq ((cB33, .int) :: []))) (va_Qi (S := Unit) (fun (r : Int32) _ => r = out.1) (fun _ t => BC (dC, dI) (va_A ((a0, .inr (9, [.int m_t.1, .int m_t.2.1, .int m_t.2.2, .ref a1, g7, g8, g9, g10, g11, g12, g13, g14, g15, g16, g17, .ref a2, g18, g19, g20, g21, g22, g23, g24, g25, g26, g27, g28, g29, g30, g31])) :: bX11 a1 uq kq q_q ([(a2, .inl (cB33, 26, .inl m_v))])) sz) ((a0, .inr (9, [.int out.2.1, .int out.2.2.1, .int out.2.2.2, .ref a1, g7, g8, g9, g10, g11, g12, g13, g14, g15, g16, g17, .ref a2, g18, g19, g20, g21, g22, g23, g24, g25, g26, g27, g28, g29, g30, g31])) :: bX11 a1 uq kq q_q ([(a2, .inl (cB33, 26, .inl m_v))])) [] t) (va_A ((a0, .inr (9, [.int m_t.1, .int m_t.2.1, .int m_t.2.2, .ref a1, g7, g8, g9, g10, g11, g12, g13, g14, g15, g16, g17, .ref a2, g18, g19, g20, g21, g22, g23, g24, g25, g26, g27, g28, g29, g30, g31])) :: bX11 a1 uq kq q_q ([(a2, .inl (cB33, 26, .inl m_v))])) sz)) 0 0 (va_A ((a0, .inr (9, [.int m_t.1, .int m_t.2.1, .int m_t.2.2, .ref a1, g7, g8, g9, g10, g11, g12, g13, g14, g15, g16, g17, .ref a2, g18, g19, g20, g21, g22, g23, g24, g25, g26, g27, g28, g29, g30, g31])) :: bX11 a1 uq kq q_q ([(a2, .inl (cB33, 26, .inl m_v))])) sz) := by
  refine Met.ofW (cc := cX12_bestDay) (maxL := 6) (ret := (some .int)) (by decide) rfl ?_
  intro p e s m args below meth c s₁ B0 hml hv
  obtain ⟨rfl, hsz, hP, hK, hD0, hN⟩ := hv
  have hx := B0.exec
  have hb := B0.bytes
  have hr := B0.returns
  have hts := atoms_spec (ws := vfX12_bestDay) B0.pre
  have hown : s.vm.findClass RX12 = some m.cls := findClass_of_methodNamed B0.named
  have hlocks := B0.notSynchronized
  subst hsz
  have hD := hD0.self (sz := s.heap.size)
  generalize hAe : va_A ((a0, .inr (9, [.int m_t.1, .int m_t.2.1, .int m_t.2.2, .ref a1, g7, g8, g9, g10, g11, g12, g13, g14, g15, g16, g17, .ref a2, g18, g19, g20, g21, g22, g23, g24, g25, g26, g27, g28, g29, g30, g31])) :: bX11 a1 uq kq q_q ([(a2, .inl (cB33, 26, .inl m_v))])) s.heap.size = A at hD ⊢
  have hA : ∀ q : Nat, s.heap.size ≤ q → A q := fun q h => by rw [← hAe]; exact Or.inr h
  have hS : va_S A s.heap s.heap [] := va_S.rf
  have hP : va_P (dC, dI) vwCl ((a0, .inr (9, [.int m_t.1, .int m_t.2.1, .int m_t.2.2, .ref a1, g7, g8, g9, g10, g11, g12, g13, g14, g15, g16, g17, .ref a2, g18, g19, g20, g21, g22, g23, g24, g25, g26, g27, g28, g29, g30, g31])) :: bX11 a1 uq kq q_q ([(a2, .inl (cB33, 26, .inl m_v))])) s.heap := hP
  have hl := lv_entry ([.ref a0]) (n := 6) (Nat.le_of_ble_eq_true rfl)
  rw [lg_entry_eq]
  generalize (lg_sl ([.ref a0]) ++ List.replicate (6 - (lg_sl ([.ref a0])).length) Slot.unset).toArray = ls at hl ⊢
  have hl : lv_has ls 6 [(0, .ref a0)] := hl
  refine W_q (fun QQ hQQ => ?_)
  rw [f_X12_bestDay] at h
  refine lv_aload_n hx hb dX12_bestDay_0 rfl (lv_at hl 0 rfl) ?_
  refine lv_iconst (v := 0) hx hb dX12_bestDay_1 (by decide) ?_
  refine va_put (D := (dC, dI)) (ci := 9) (v := .int 0) (ty := .int) (C := RX12) (T := TX12) (N := 30) hx hb hts ifX12_bestDay_X12 tyX12 tyX12_ok nmX12 hown hK hP hD hS 0 rfl rfl 0 (by decide) (hts (.fieldLink RX12 36 "HookPierModel" "thrown" "I") (List.mem_of_getElem? (i := 1) rfl)) (fun _ h9 => h9) rfl (by decide +kernel) rfl rfl (Nat.le_of_ble_eq_true rfl) dX12_bestDay_2 (fun H locs hP hD hS => ?_)
  have hP : va_P (dC, dI) vwCl ((a0, .inr (9, [.int 0, .int m_t.2.1, .int m_t.2.2, .ref a1, g7, g8, g9, g10, g11, g12, g13, g14, g15, g16, g17, .ref a2, g18, g19, g20, g21, g22, g23, g24, g25, g26, g27, g28, g29, g30, g31])) :: bX11 a1 uq kq q_q ([(a2, .inl (cB33, 26, .inl m_v))])) H := hP
  have hD : va_D A ((a0, .inr (9, [.int 0, .int m_t.2.1, .int m_t.2.2, .ref a1, g7, g8, g9, g10, g11, g12, g13, g14, g15, g16, g17, .ref a2, g18, g19, g20, g21, g22, g23, g24, g25, g26, g27, g28, g29, g30, g31])) :: bX11 a1 uq kq q_q ([(a2, .inl (cB33, 26, .inl m_v))])) := hD
  refine lv_aload_n hx hb dX12_bestDay_5 rfl (lv_at hl 0 rfl) ?_
  refine va_get (D := (dC, dI)) (ci := 9) (v := .ref a1) (C := RX12) (T := TX12) (N := 30) hx hb hts ifX12_bestDay_X12 hown hK hP 0 rfl rfl 3 (by decide) (hts (.fieldLink RX12 299 "HookPierModel" "pier" "LHookPierModel$Pier;") (List.mem_of_getElem? (i := 2) rfl)) (fun _ h9 => h9) rfl dX12_bestDay_6 ?_
  refine lv_ifnonnull (tgt := 18) hx hb dX12_bestDay_9 (by decide) ?_
  refine lv_iconst (v := 0) hx hb dX12_bestDay_18 (by decide) ?_
  refine lv_istore_n (lv' := [(1, .int 0), (0, .ref a0)]) hx hb dX12_bestDay_19 rfl hl (by decide) rfl (fun ls hl => ?_)
  refine lv_iconst (v := (-1)) hx hb dX12_bestDay_20 (by decide) ?_
  refine lv_istore_n (lv' := [(2, .int (-1)), (1, .int 0), (0, .ref a0)]) hx hb dX12_bestDay_21 rfl hl (by decide) rfl (fun ls hl => ?_)
  refine lv_iconst (v := 0) hx hb dX12_bestDay_22 (by decide) ?_
  refine lv_istore_n (lv' := [(3, .int 0), (2, .int (-1)), (1, .int 0), (0, .ref a0)]) hx hb dX12_bestDay_23 rfl hl (by decide) rfl (fun ls hl => ?_)
  have L24 : ∀ (n24 : Nat) (v24_l3 : Int32) (v24_l2 : Int32) (v24_l1 : Int32) (H : Heap) (locs : List Loc) (ls : Array Slot), f_X12_bestDay_L24 m_t m_v q_q n24 v24_l3 v24_l2 v24_l1 = some out → va_P (dC, dI) vwCl ((a0, .inr (9, [.int 0, .int m_t.2.1, .int m_t.2.2, .ref a1, g7, g8, g9, g10, g11, g12, g13, g14, g15, g16, g17, .ref a2, g18, g19, g20, g21, g22, g23, g24, g25, g26, g27, g28, g29, g30, g31])) :: bX11 a1 uq kq q_q ([(a2, .inl (cB33, 26, .inl m_v))])) H → va_D A ((a0, .inr (9, [.int 0, .int m_t.2.1, .int m_t.2.2, .ref a1, g7, g8, g9, g10, g11, g12, g13, g14, g15, g16, g17, .ref a2, g18, g19, g20, g21, g22, g23, g24, g25, g26, g27, g28, g29, g30, g31])) :: bX11 a1 uq kq q_q ([(a2, .inl (cB33, 26, .inl m_v))])) → va_S A s.heap H locs → lv_has ls 6 [(3, .int v24_l3), (2, .int v24_l2), (1, .int v24_l1), (0, .ref a0)] → W p l e (headSpec vfX12_bestDay { frames := 1, cells := 0, slots := 0, locals := 24 }).room s m ([.ref a0]).toArray below meth c H locs 0 0 QQ (F0 m 24 ls []) := by
    intro n24
    induction n24 with
    | zero =>
      intro v24_l3 v24_l2 v24_l1 H locs ls h  _ _ _ _
      rw [f_X12_bestDay_L24] at h
      cases h
    | succ n24 ih24 =>
      intro v24_l3 v24_l2 v24_l1 H locs ls h  hP hD hS hl
      rw [f_X12_bestDay_L24] at h
      refine lv_iload_n hx hb dX12_bestDay_24 rfl (lv_at hl 0 rfl) ?_
      refine lv_bipush (v := 20) hx hb dX12_bestDay_25 (by decide) ?_
      refine lv_icmp_gt (tgt := 121) hx hb dX12_bestDay_27 (by decide) (fun c27 => ?_) (fun c27 => ?_)
      · have h := (if_pos c27).symm.trans h
        refine lv_aload_n hx hb dX12_bestDay_121 rfl (lv_at hl 3 rfl) ?_
        refine lv_iload_n hx hb dX12_bestDay_122 rfl (lv_at hl 2 rfl) ?_
        obtain ⟨o123, eo123⟩ : ∃ o, o = f_X12_good v24_l1 ((0 : Int32), m_t.2) := ⟨_, rfl⟩
        have h := nm_of h o123 eo123
        refine cl_i (wc := ([(a0, .inr (9, [.int 0, .int m_t.2.1, .int m_t.2.2, .ref a1, g7, g8, g9, g10, g11, g12, g13, g14, g15, g16, g17, .ref a2, g18, g19, g20, g21, g22, g23, g24, g25, g26, g27, g28, g29, g30, g31]))])) (wr := (bX11 a1 uq kq q_q ([(a2, .inl (cB33, 26, .inl m_v))]))) (va_runV (As := [.int v24_l1]) (rest := []) ⟨hx, hb, hml, hown, hts⟩ (kfX12_good l dC dI a0 v24_l1 ((0 : Int32), m_t.2) (.ref a1) (g7) (g8) (g9) (g10) (g11) (g12) (g13) (g14) (g15) (g16) (g17) (.ref a2) (g18) (g19) (g20) (g21) (g22) (g23) (g24) (g25) (g26) (g27) (g28) (g29) (g30) (g31) H.size o123 eo123.symm) (cwV 1 hts gfX12_bestDay_0 rfl rfl rfl (by decide +kernel) ⟨(Nat.le_of_ble_eq_true rfl), (Nat.le_of_ble_eq_true rfl)⟩) (PV (hP.sub (ws' := ([(a0, .inr (9, [.int 0, .int m_t.2.1, .int m_t.2.2, .ref a1, g7, g8, g9, g10, g11, g12, g13, g14, g15, g16, g17, .ref a2, g18, g19, g20, g21, g22, g23, g24, g25, g26, g27, g28, g29, g30, g31]))])) [0] rfl) (hK.sub (tys' := ([])) [] rfl) (hD.sub (ws' := ([(a0, .inr (9, [.int 0, .int m_t.2.1, .int m_t.2.2, .ref a1, g7, g8, g9, g10, g11, g12, g13, g14, g15, g16, g17, .ref a2, g18, g19, g20, g21, g22, g23, g24, g25, g26, g27, g28, g29, g30, g31]))])) [0] (by decide) rfl) hN 0 rfl rfl) rfl rfl hl.1 rfl (lv_room (Nat.le_of_ble_eq_true rfl)) dX12_bestDay_123 ⟨(Nat.le_of_ble_eq_true rfl), (Nat.le_of_ble_eq_true rfl)⟩) hP hD hK hS hA [0] [1, 2, 3, 4, 5, 6, 7, 8, 9, 10, 11, 12, 13, 14, 15, 16] rfl rfl (by decide) (by decide) (fun r123 _ H locs hw hP hD _ hS => ?_)
        obtain rfl := hw
        have hP : va_P (dC, dI) vwCl (bX11 a1 uq kq q_q ([(a2, .inl (cB33, 26, .inl m_v)), (a0, .inr (9, [.int o123.2.1, .int o123.2.2.1, .int o123.2.2.2, .ref a1, g7, g8, g9, g10, g11, g12, g13, g14, g15, g16, g17, .ref a2, g18, g19, g20, g21, g22, g23, g24, g25, g26, g27, g28, g29, g30, g31]))])) H := hP
        have hD : va_D A (bX11 a1 uq kq q_q ([(a2, .inl (cB33, 26, .inl m_v)), (a0, .inr (9, [.int o123.2.1, .int o123.2.2.1, .int o123.2.2.2, .ref a1, g7, g8, g9, g10, g11, g12, g13, g14, g15, g16, g17, .ref a2, g18, g19, g20, g21, g22, g23, g24, g25, g26, g27, g28, g29, g30, g31]))])) := hD
        obtain rfl := Option.some.inj h
        have hP9 := hP.sub (ws' := ((a0, .inr (9, [.int o123.2.1, .int o123.2.2.1, .int o123.2.2.2, .ref a1, g7, g8, g9, g10, g11, g12, g13, g14, g15, g16, g17, .ref a2, g18, g19, g20, g21, g22, g23, g24, g25, g26, g27, g28, g29, g30, g31])) :: bX11 a1 uq kq q_q ([(a2, .inl (cB33, 26, .inl m_v))]))) [16, 0, 1, 2, 3, 4, 5, 6, 7, 8, 9, 10, 11, 12, 13, 14, 15] rfl
        have hD9 := hD.sub (ws' := ((a0, .inr (9, [.int o123.2.1, .int o123.2.2.1, .int o123.2.2.2, .ref a1, g7, g8, g9, g10, g11, g12, g13, g14, g15, g16, g17, .ref a2, g18, g19, g20, g21, g22, g23, g24, g25, g26, g27, g28, g29, g30, g31])) :: bX11 a1 uq kq q_q ([(a2, .inl (cB33, 26, .inl m_v))]))) [16, 0, 1, 2, 3, 4, 5, 6, 7, 8, 9, 10, 11, 12, 13, 14, 15] (by decide) rfl
        have hK9 := hK.sub (tys' := []) [] rfl
        rw [hQQ]
        exact W.iret (v := o123.1) hx hb hr (fun t ht hW => ⟨⟨o123.1, (), rfl, rfl, by rw [ht]; exact hP9, va_K.moved hW.alike hK9, hD9⟩, hS.F ht⟩) hS.2.2 dX12_bestDay_126
      · have h := (if_neg c27).symm.trans h
        refine lv_iconst (v := 0) hx hb dX12_bestDay_30 (by decide) ?_
        refine lv_istore (lv' := [(4, .int 0), (3, .int v24_l3), (2, .int v24_l2), (1, .int v24_l1), (0, .ref a0)]) hx hb dX12_bestDay_31 hl (by decide) rfl (fun ls hl => ?_)
        refine lv_iconst (v := 0) hx hb dX12_bestDay_33 (by decide) ?_
        refine lv_istore (lv' := [(5, .int 0), (4, .int 0), (3, .int v24_l3), (2, .int v24_l2), (1, .int v24_l1), (0, .ref a0)]) hx hb dX12_bestDay_34 hl (by decide) rfl (fun ls hl => ?_)
        have L36 : ∀ (n36 : Nat) (v36_l5 : Int32) (v36_l4 : Int32) (H : Heap) (locs : List Loc) (ls : Array Slot), f_X12_bestDay_L36 m_v q_q (f_X12_bestDay_L24 m_t m_v q_q n24) v24_l1 v24_l2 v24_l3 n36 v36_l5 v36_l4 = some out → va_P (dC, dI) vwCl ((a0, .inr (9, [.int 0, .int m_t.2.1, .int m_t.2.2, .ref a1, g7, g8, g9, g10, g11, g12, g13, g14, g15, g16, g17, .ref a2, g18, g19, g20, g21, g22, g23, g24, g25, g26, g27, g28, g29, g30, g31])) :: bX11 a1 uq kq q_q ([(a2, .inl (cB33, 26, .inl m_v))])) H → va_D A ((a0, .inr (9, [.int 0, .int m_t.2.1, .int m_t.2.2, .ref a1, g7, g8, g9, g10, g11, g12, g13, g14, g15, g16, g17, .ref a2, g18, g19, g20, g21, g22, g23, g24, g25, g26, g27, g28, g29, g30, g31])) :: bX11 a1 uq kq q_q ([(a2, .inl (cB33, 26, .inl m_v))])) → va_S A s.heap H locs → lv_has ls 6 [(5, .int v36_l5), (4, .int v36_l4), (3, .int v24_l3), (2, .int v24_l2), (1, .int v24_l1), (0, .ref a0)] → W p l e (headSpec vfX12_bestDay { frames := 1, cells := 0, slots := 0, locals := 24 }).room s m ([.ref a0]).toArray below meth c H locs 0 0 QQ (F0 m 36 ls []) := by
          intro n36
          induction n36 with
          | zero =>
            intro v36_l5 v36_l4 H locs ls h  _ _ _ _
            rw [f_X12_bestDay_L36] at h
            cases h
          | succ n36 ih36 =>
            intro v36_l5 v36_l4 H locs ls h  hP hD hS hl
            rw [f_X12_bestDay_L36] at h
            refine lv_iload hx hb dX12_bestDay_36 (lv_at hl 0 rfl) ?_
            refine lv_aload_n hx hb dX12_bestDay_38 rfl (lv_at hl 5 rfl) ?_
            refine va_get (D := (dC, dI)) (ci := 9) (v := .ref a1) (C := RX12) (T := TX12) (N := 30) hx hb hts ifX12_bestDay_X12 hown hK hP 0 rfl rfl 3 (by decide) (hts (.fieldLink RX12 299 "HookPierModel" "pier" "LHookPierModel$Pier;") (List.mem_of_getElem? (i := 2) rfl)) (fun _ h9 => h9) rfl dX12_bestDay_39 ?_
            refine va_getN (D := (dC, dI)) (ci := 8) (v := .int q_q.2.2.2.2.2.2.1) (C := RX11) (T := TX11) (N := 24) hx hb hts ifX12_bestDay_X11 hown hK hP 1 rfl rfl 6 (by decide) (va_Nw.use rfl (hN.1 (.fieldLinkNest RX12 231 "HookPierModel$Pier" "answers" "I" "HookPierModel") (List.mem_of_getElem? (i := 28) rfl))) (fun _ h9 => h9) rfl dX12_bestDay_42 ?_
            refine lv_icmp_ge (tgt := 101) hx hb dX12_bestDay_45 (by decide) (fun c45 => ?_) (fun c45 => ?_)
            · have h := (if_pos c45).symm.trans h
              refine lv_iload hx hb dX12_bestDay_101 (lv_at hl 1 rfl) ?_
              refine lv_iload_n hx hb dX12_bestDay_103 rfl (lv_at hl 3 rfl) ?_
              have J115 : ∀ (v115_l1 : Int32) (v115_l2 : Int32) (H : Heap) (locs : List Loc) (ls : Array Slot), f_X12_bestDay_J115 (f_X12_bestDay_L24 m_t m_v q_q n24) v24_l3 v115_l1 v115_l2 = some out → va_P (dC, dI) vwCl ((a0, .inr (9, [.int 0, .int m_t.2.1, .int m_t.2.2, .ref a1, g7, g8, g9, g10, g11, g12, g13, g14, g15, g16, g17, .ref a2, g18, g19, g20, g21, g22, g23, g24, g25, g26, g27, g28, g29, g30, g31])) :: bX11 a1 uq kq q_q ([(a2, .inl (cB33, 26, .inl m_v))])) H → va_D A ((a0, .inr (9, [.int 0, .int m_t.2.1, .int m_t.2.2, .ref a1, g7, g8, g9, g10, g11, g12, g13, g14, g15, g16, g17, .ref a2, g18, g19, g20, g21, g22, g23, g24, g25, g26, g27, g28, g29, g30, g31])) :: bX11 a1 uq kq q_q ([(a2, .inl (cB33, 26, .inl m_v))])) → va_S A s.heap H locs → lv_has ls 6 [(1, .int v115_l1), (2, .int v115_l2), (3, .int v24_l3), (0, .ref a0)] → W p l e (headSpec vfX12_bestDay { frames := 1, cells := 0, slots := 0, locals := 24 }).room s m ([.ref a0]).toArray below meth c H locs 0 0 QQ (F0 m 115 ls []) := by
                intro v115_l1 v115_l2 H locs ls h  hP hD hS hl
                rw [f_X12_bestDay_J115] at h
                refine lv_iinc (v := (v24_l3 + (1 : Int32))) (lv' := [(3, .int (v24_l3 + (1 : Int32))), (1, .int v115_l1), (2, .int v115_l2), (0, .ref a0)]) hx hb dX12_bestDay_115 hl (k := 2) rfl rfl (by decide) rfl (fun ls hl => ?_)
                refine lv_goto (tgt := 24) hx hb dX12_bestDay_118 (by decide) ?_
                exact ih24 (v24_l3 + (1 : Int32)) v115_l2 v115_l1 H _ ls h  hP hD hS (lv_sub hl [0, 2, 1, 3] rfl)
              refine lv_icmp_gt (tgt := 110) hx hb dX12_bestDay_104 (by decide) (fun c104 => ?_) (fun c104 => ?_)
              · have h := (if_pos c104).symm.trans h
                refine lv_iload hx hb dX12_bestDay_110 (lv_at hl 1 rfl) ?_
                refine lv_istore_n (lv' := [(2, .int v36_l4), (5, .int v36_l5), (4, .int v36_l4), (3, .int v24_l3), (1, .int v24_l1), (0, .ref a0)]) hx hb dX12_bestDay_112 rfl hl (by decide) rfl (fun ls hl => ?_)
                refine lv_iload_n hx hb dX12_bestDay_113 rfl (lv_at hl 3 rfl) ?_
                refine lv_istore_n (lv' := [(1, .int v24_l3), (2, .int v36_l4), (5, .int v36_l5), (4, .int v36_l4), (3, .int v24_l3), (0, .ref a0)]) hx hb dX12_bestDay_114 rfl hl (by decide) rfl (fun ls hl => ?_)
                exact J115 v24_l3 v36_l4 H _ ls h  hP hD hS (lv_sub hl [0, 1, 4, 5] rfl)
              · have h := (if_neg c104).symm.trans h
                refine lv_goto (tgt := 115) hx hb dX12_bestDay_107 (by decide) ?_
                exact J115 v24_l1 v24_l2 H _ ls h  hP hD hS (lv_sub hl [4, 3, 2, 5] rfl)
            · have h := (if_neg c45).symm.trans h
              refine lv_iload hx hb dX12_bestDay_48 (lv_at hl 1 rfl) ?_
              refine lv_aload_n hx hb dX12_bestDay_50 rfl (lv_at hl 5 rfl) ?_
              refine va_get (D := (dC, dI)) (ci := 9) (v := .ref a2) (C := RX12) (T := TX12) (N := 30) hx hb hts ifX12_bestDay_X12 hown hK hP 0 rfl rfl 15 (by decide) (hts (.fieldLink RX12 17 "HookPierModel" "v" "[I") (List.mem_of_getElem? (i := 10) rfl)) (fun _ h9 => h9) rfl dX12_bestDay_51 ?_
              refine lv_iconst (v := 0) hx hb dX12_bestDay_54 (by decide) ?_
              refine lv_iload hx hb dX12_bestDay_55 (lv_at hl 0 rfl) ?_
              refine lv_iadd hx hb dX12_bestDay_57 ?_
              obtain ⟨hg58, h⟩ := gA_of h
              refine va_iald hx hb hK hP 16 14 rfl rfl hg58 dX12_bestDay_58 ?_
              refine lv_iconst (v := 1) hx hb dX12_bestDay_59 (by decide) ?_
              have J92 : ∀ (v92_t1 : Int32) (H : Heap) (locs : List Loc) (ls : Array Slot), f_X12_bestDay_J92 (f_X12_bestDay_L36 m_v q_q (f_X12_bestDay_L24 m_t m_v q_q n24) v24_l1 v24_l2 v24_l3 n36) v36_l4 v36_l5 v92_t1 = some out → va_P (dC, dI) vwCl ((a0, .inr (9, [.int 0, .int m_t.2.1, .int m_t.2.2, .ref a1, g7, g8, g9, g10, g11, g12, g13, g14, g15, g16, g17, .ref a2, g18, g19, g20, g21, g22, g23, g24, g25, g26, g27, g28, g29, g30, g31])) :: bX11 a1 uq kq q_q ([(a2, .inl (cB33, 26, .inl m_v))])) H → va_D A ((a0, .inr (9, [.int 0, .int m_t.2.1, .int m_t.2.2, .ref a1, g7, g8, g9, g10, g11, g12, g13, g14, g15, g16, g17, .ref a2, g18, g19, g20, g21, g22, g23, g24, g25, g26, g27, g28, g29, g30, g31])) :: bX11 a1 uq kq q_q ([(a2, .inl (cB33, 26, .inl m_v))])) → va_S A s.heap H locs → lv_has ls 6 [(5, .int v36_l5), (3, .int v24_l3), (2, .int v24_l2), (1, .int v24_l1), (0, .ref a0)] → W p l e (headSpec vfX12_bestDay { frames := 1, cells := 0, slots := 0, locals := 24 }).room s m ([.ref a0]).toArray below meth c H locs 0 0 QQ (F0 m 92 ls [.int v92_t1, .int v36_l4]) := by
                intro v92_t1 H locs ls h  hP hD hS hl
                rw [f_X12_bestDay_J92] at h
                refine lv_iadd hx hb dX12_bestDay_92 ?_
                refine lv_istore (lv' := [(4, .int (v36_l4 + v92_t1)), (5, .int v36_l5), (3, .int v24_l3), (2, .int v24_l2), (1, .int v24_l1), (0, .ref a0)]) hx hb dX12_bestDay_93 hl (by decide) rfl (fun ls hl => ?_)
                refine lv_iinc (v := (v36_l5 + (1 : Int32))) (lv' := [(5, .int (v36_l5 + (1 : Int32))), (4, .int (v36_l4 + v92_t1)), (3, .int v24_l3), (2, .int v24_l2), (1, .int v24_l1), (0, .ref a0)]) hx hb dX12_bestDay_95 hl (k := 1) rfl rfl (by decide) rfl (fun ls hl => ?_)
                refine lv_goto (tgt := 36) hx hb dX12_bestDay_98 (by decide) ?_
                exact ih36 (v36_l5 + (1 : Int32)) (v36_l4 + v92_t1) H _ ls h  hP hD hS (lv_sub hl [0, 1, 2, 3, 4, 5] rfl)
              refine lv_icmp_ne (tgt := 91) hx hb dX12_bestDay_60 (by decide) (fun c60 => ?_) (fun c60 => ?_)
              · have h := (if_neg c60).symm.trans h
                refine lv_iconst (v := 0) hx hb dX12_bestDay_91 (by decide) ?_
                exact J92 (0 : Int32) H _ ls h  hP hD hS (lv_sub hl [0, 2, 3, 4, 5] rfl)
              · have h := (if_pos c60).symm.trans h
                refine lv_aload_n hx hb dX12_bestDay_63 rfl (lv_at hl 5 rfl) ?_
                refine lv_iload hx hb dX12_bestDay_64 (lv_at hl 0 rfl) ?_
                refine lv_aload_n hx hb dX12_bestDay_66 rfl (lv_at hl 5 rfl) ?_
                refine va_get (D := (dC, dI)) (ci := 9) (v := .ref a2) (C := RX12) (T := TX12) (N := 30) hx hb hts ifX12_bestDay_X12 hown hK hP 0 rfl rfl 15 (by decide) (hts (.fieldLink RX12 17 "HookPierModel" "v" "[I") (List.mem_of_getElem? (i := 10) rfl)) (fun _ h9 => h9) rfl dX12_bestDay_67 ?_
                refine lv_bipush (v := 6) hx hb dX12_bestDay_70 (by decide) ?_
                refine lv_iload hx hb dX12_bestDay_72 (lv_at hl 0 rfl) ?_
                refine lv_iadd hx hb dX12_bestDay_74 ?_
                obtain ⟨hg75, h⟩ := gA_of h
                refine va_iald hx hb hK hP 16 14 rfl rfl hg75 dX12_bestDay_75 ?_
                refine lv_aload_n hx hb dX12_bestDay_76 rfl (lv_at hl 5 rfl) ?_
                refine va_get (D := (dC, dI)) (ci := 9) (v := .ref a2) (C := RX12) (T := TX12) (N := 30) hx hb hts ifX12_bestDay_X12 hown hK hP 0 rfl rfl 15 (by decide) (hts (.fieldLink RX12 17 "HookPierModel" "v" "[I") (List.mem_of_getElem? (i := 10) rfl)) (fun _ h9 => h9) rfl dX12_bestDay_77 ?_
                refine lv_bipush (v := 23) hx hb dX12_bestDay_80 (by decide) ?_
                refine va_iald hx hb hK hP 16 14 rfl rfl (by unfold vp_in; decide) dX12_bestDay_82 ?_
                refine lv_iload_n hx hb dX12_bestDay_83 rfl (lv_at hl 2 rfl) ?_
                refine lv_iadd hx hb dX12_bestDay_84 ?_
                obtain ⟨o85, eo85, h⟩ := bd_of h
                refine cl_i (wc := ((a0, .inr (9, [.int 0, .int m_t.2.1, .int m_t.2.2, .ref a1, g7, g8, g9, g10, g11, g12, g13, g14, g15, g16, g17, .ref a2, g18, g19, g20, g21, g22, g23, g24, g25, g26, g27, g28, g29, g30, g31])) :: bX11 a1 uq kq q_q [])) (wr := ([(a2, .inl (cB33, 26, .inl m_v))])) (va_runV (As := [.int v36_l5, .int (m_v (((6 : Int32) + v36_l5)).toNatClampNeg), .int ((m_v ((23 : Int32)).toNatClampNeg) + v24_l3)]) (rest := [.int v36_l4]) ⟨hx, hb, hml, hown, hts⟩ (kfX12_keeps l dC dI a0 v36_l5 (m_v (((6 : Int32) + v36_l5)).toNatClampNeg) ((m_v ((23 : Int32)).toNatClampNeg) + v24_l3) a1 uq kq (.int 0) (.int m_t.2.1) (.int m_t.2.2) (g7) (g8) (g9) (g10) (g11) (g12) (g13) (g14) (g15) (g16) (g17) (.ref a2) (g18) (g19) (g20) (g21) (g22) (g23) (g24) (g25) (g26) (g27) (g28) (g29) (g30) (g31) q_q H.size o85 eo85) (cwV 3 hts gfX12_bestDay_1 rfl rfl rfl (by decide +kernel) ⟨(Nat.le_of_ble_eq_true rfl), (Nat.le_of_ble_eq_true rfl)⟩) (PV (hP.sub (ws' := ((a0, .inr (9, [.int 0, .int m_t.2.1, .int m_t.2.2, .ref a1, g7, g8, g9, g10, g11, g12, g13, g14, g15, g16, g17, .ref a2, g18, g19, g20, g21, g22, g23, g24, g25, g26, g27, g28, g29, g30, g31])) :: bX11 a1 uq kq q_q [])) [0, 1, 2, 3, 4, 5, 6, 7, 8, 9, 10, 11, 12, 13, 14, 15] rfl) (hK.sub (tys' := (tX11 kq ([]))) [0, 1, 2, 3, 4, 5, 6, 7, 8, 9, 10, 11, 12, 13] rfl) (hD.sub (ws' := ((a0, .inr (9, [.int 0, .int m_t.2.1, .int m_t.2.2, .ref a1, g7, g8, g9, g10, g11, g12, g13, g14, g15, g16, g17, .ref a2, g18, g19, g20, g21, g22, g23, g24, g25, g26, g27, g28, g29, g30, g31])) :: bX11 a1 uq kq q_q [])) [0, 1, 2, 3, 4, 5, 6, 7, 8, 9, 10, 11, 12, 13, 14, 15] (by decide) rfl) hN 0 rfl rfl) rfl rfl hl.1 rfl (lv_room (Nat.le_of_ble_eq_true rfl)) dX12_bestDay_85 ⟨(Nat.le_of_ble_eq_true rfl), (Nat.le_of_ble_eq_true rfl)⟩) hP hD hK hS hA [0, 1, 2, 3, 4, 5, 6, 7, 8, 9, 10, 11, 12, 13, 14, 15] [16] rfl rfl (by decide) (by decide) (fun r85 _ H locs hw hP hD _ hS => ?_)
                obtain rfl := hw.symm
                have hP : va_P (dC, dI) vwCl ((a2, .inl (cB33, 26, .inl m_v)) :: (a0, .inr (9, [.int 0, .int m_t.2.1, .int m_t.2.2, .ref a1, g7, g8, g9, g10, g11, g12, g13, g14, g15, g16, g17, .ref a2, g18, g19, g20, g21, g22, g23, g24, g25, g26, g27, g28, g29, g30, g31])) :: bX11 a1 uq kq q_q []) H := hP
                have hD : va_D A ((a2, .inl (cB33, 26, .inl m_v)) :: (a0, .inr (9, [.int 0, .int m_t.2.1, .int m_t.2.2, .ref a1, g7, g8, g9, g10, g11, g12, g13, g14, g15, g16, g17, .ref a2, g18, g19, g20, g21, g22, g23, g24, g25, g26, g27, g28, g29, g30, g31])) :: bX11 a1 uq kq q_q []) := hD
                refine lv_goto (tgt := 92) hx hb dX12_bestDay_88 (by decide) ?_
                exact J92 o85 H _ ls h  (hP.sub (ws' := ((a0, .inr (9, [.int 0, .int m_t.2.1, .int m_t.2.2, .ref a1, g7, g8, g9, g10, g11, g12, g13, g14, g15, g16, g17, .ref a2, g18, g19, g20, g21, g22, g23, g24, g25, g26, g27, g28, g29, g30, g31])) :: bX11 a1 uq kq q_q ([(a2, .inl (cB33, 26, .inl m_v))]))) [1, 2, 3, 4, 5, 6, 7, 8, 9, 10, 11, 12, 13, 14, 15, 16, 0] rfl) (hD.sub (ws' := ((a0, .inr (9, [.int 0, .int m_t.2.1, .int m_t.2.2, .ref a1, g7, g8, g9, g10, g11, g12, g13, g14, g15, g16, g17, .ref a2, g18, g19, g20, g21, g22, g23, g24, g25, g26, g27, g28, g29, g30, g31])) :: bX11 a1 uq kq q_q ([(a2, .inl (cB33, 26, .inl m_v))]))) [1, 2, 3, 4, 5, 6, 7, 8, 9, 10, 11, 12, 13, 14, 15, 16, 0] (by decide) rfl) hS (lv_sub hl [0, 2, 3, 4, 5] rfl)
        exact L36 FU (0 : Int32) (0 : Int32) H _ ls h  hP hD hS (lv_sub hl [0, 1, 2, 3, 4, 5] rfl)
  exact L24 FU (0 : Int32) (-1 : Int32) (0 : Int32) H _ ls h  hP hD hS (lv_sub hl [0, 1, 2, 3] rfl)
