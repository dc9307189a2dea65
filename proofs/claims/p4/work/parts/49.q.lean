theorem dX10_hooks_0 : decode cX10_hooks 0 = .ok (.aload_n 0, 1) := by decide +kernel
theorem dX10_hooks_1 : decode cX10_hooks 1 = .ok (.aload_n 0, 1) := by decide +kernel
theorem dX10_hooks_10 : decode cX10_hooks 10 = .ok (.invokevirtual 79, 3) := by decide +kernel
theorem dX10_hooks_100 : decode cX10_hooks 100 = .ok (.iload 5, 2) := by decide +kernel
theorem dX10_hooks_102 : decode cX10_hooks 102 = .ok (.ifCond .eq 21, 3) := by decide +kernel
theorem dX10_hooks_105 : decode cX10_hooks 105 = .ok (.iload 6, 2) := by decide +kernel
theorem dX10_hooks_107 : decode cX10_hooks 107 = .ok (.iload 7, 2) := by decide +kernel
theorem dX10_hooks_109 : decode cX10_hooks 109 = .ok (.if_icmp .lt 8, 3) := by decide +kernel
theorem dX10_hooks_112 : decode cX10_hooks 112 = .ok (.iload 10, 2) := by decide +kernel
theorem dX10_hooks_114 : decode cX10_hooks 114 = .ok (.goto 8, 3) := by decide +kernel
theorem dX10_hooks_117 : decode cX10_hooks 117 = .ok (.iload 10, 2) := by decide +kernel
theorem dX10_hooks_119 : decode cX10_hooks 119 = .ok (.iload 11, 2) := by decide +kernel
theorem dX10_hooks_121 : decode cX10_hooks 121 = .ok (.iadd, 1) := by decide +kernel
theorem dX10_hooks_122 : decode cX10_hooks 122 = .ok (.ireturn, 1) := by decide +kernel
theorem dX10_hooks_123 : decode cX10_hooks 123 = .ok (.iload 6, 2) := by decide +kernel
theorem dX10_hooks_125 : decode cX10_hooks 125 = .ok (.iload 7, 2) := by decide +kernel
theorem dX10_hooks_127 : decode cX10_hooks 127 = .ok (.if_icmp .lt 11, 3) := by decide +kernel
theorem dX10_hooks_13 : decode cX10_hooks 13 = .ok (.ifCond .eq 5, 3) := by decide +kernel
theorem dX10_hooks_130 : decode cX10_hooks 130 = .ok (.iload 9, 2) := by decide +kernel
theorem dX10_hooks_132 : decode cX10_hooks 132 = .ok (.iload 11, 2) := by decide +kernel
theorem dX10_hooks_134 : decode cX10_hooks 134 = .ok (.iadd, 1) := by decide +kernel
theorem dX10_hooks_135 : decode cX10_hooks 135 = .ok (.goto 5, 3) := by decide +kernel
theorem dX10_hooks_138 : decode cX10_hooks 138 = .ok (.iload 9, 2) := by decide +kernel
theorem dX10_hooks_140 : decode cX10_hooks 140 = .ok (.ireturn, 1) := by decide +kernel
theorem dX10_hooks_16 : decode cX10_hooks 16 = .ok (.iconst (-1), 1) := by decide +kernel
theorem dX10_hooks_17 : decode cX10_hooks 17 = .ok (.ireturn, 1) := by decide +kernel
theorem dX10_hooks_18 : decode cX10_hooks 18 = .ok (.aload_n 0, 1) := by decide +kernel
theorem dX10_hooks_19 : decode cX10_hooks 19 = .ok (.getfield 10, 3) := by decide +kernel
theorem dX10_hooks_2 : decode cX10_hooks 2 = .ok (.iload_n 1, 1) := by decide +kernel
theorem dX10_hooks_22 : decode cX10_hooks 22 = .ok (.iload_n 1, 1) := by decide +kernel
theorem dX10_hooks_23 : decode cX10_hooks 23 = .ok (.aload_n 0, 1) := by decide +kernel
theorem dX10_hooks_24 : decode cX10_hooks 24 = .ok (.getfield 29, 3) := by decide +kernel
theorem dX10_hooks_27 : decode cX10_hooks 27 = .ok (.getfield 146, 3) := by decide +kernel
theorem dX10_hooks_3 : decode cX10_hooks 3 = .ok (.iload_n 2, 1) := by decide +kernel
theorem dX10_hooks_30 : decode cX10_hooks 30 = .ok (.iload_n 2, 1) := by decide +kernel
theorem dX10_hooks_31 : decode cX10_hooks 31 = .ok (.iaload, 1) := by decide +kernel
theorem dX10_hooks_32 : decode cX10_hooks 32 = .ok (.invokevirtual 184, 3) := by decide +kernel
theorem dX10_hooks_35 : decode cX10_hooks 35 = .ok (.istore 6, 2) := by decide +kernel
theorem dX10_hooks_37 : decode cX10_hooks 37 = .ok (.aload_n 0, 1) := by decide +kernel
theorem dX10_hooks_38 : decode cX10_hooks 38 = .ok (.getfield 10, 3) := by decide +kernel
theorem dX10_hooks_4 : decode cX10_hooks 4 = .ok (.iload_n 3, 1) := by decide +kernel
theorem dX10_hooks_41 : decode cX10_hooks 41 = .ok (.iload_n 1, 1) := by decide +kernel
theorem dX10_hooks_42 : decode cX10_hooks 42 = .ok (.aload_n 0, 1) := by decide +kernel
theorem dX10_hooks_43 : decode cX10_hooks 43 = .ok (.getfield 29, 3) := by decide +kernel
theorem dX10_hooks_46 : decode cX10_hooks 46 = .ok (.getfield 146, 3) := by decide +kernel
theorem dX10_hooks_49 : decode cX10_hooks 49 = .ok (.iload_n 3, 1) := by decide +kernel
theorem dX10_hooks_5 : decode cX10_hooks 5 = .ok (.iload 4, 2) := by decide +kernel
theorem dX10_hooks_50 : decode cX10_hooks 50 = .ok (.iaload, 1) := by decide +kernel
theorem dX10_hooks_51 : decode cX10_hooks 51 = .ok (.invokevirtual 184, 3) := by decide +kernel
theorem dX10_hooks_54 : decode cX10_hooks 54 = .ok (.istore 7, 2) := by decide +kernel
theorem dX10_hooks_56 : decode cX10_hooks 56 = .ok (.iload 6, 2) := by decide +kernel
theorem dX10_hooks_58 : decode cX10_hooks 58 = .ok (.iload 7, 2) := by decide +kernel
theorem dX10_hooks_60 : decode cX10_hooks 60 = .ok (.iadd, 1) := by decide +kernel
theorem dX10_hooks_61 : decode cX10_hooks 61 = .ok (.istore 8, 2) := by decide +kernel
theorem dX10_hooks_63 : decode cX10_hooks 63 = .ok (.iload 8, 2) := by decide +kernel
theorem dX10_hooks_65 : decode cX10_hooks 65 = .ok (.ifCond .ne 5, 3) := by decide +kernel
theorem dX10_hooks_68 : decode cX10_hooks 68 = .ok (.iconst 0, 1) := by decide +kernel
theorem dX10_hooks_69 : decode cX10_hooks 69 = .ok (.ireturn, 1) := by decide +kernel
theorem dX10_hooks_7 : decode cX10_hooks 7 = .ok (.invokevirtual 309, 3) := by decide +kernel
theorem dX10_hooks_70 : decode cX10_hooks 70 = .ok (.iload 4, 2) := by decide +kernel
theorem dX10_hooks_72 : decode cX10_hooks 72 = .ok (.iload 6, 2) := by decide +kernel
theorem dX10_hooks_74 : decode cX10_hooks 74 = .ok (.imul, 1) := by decide +kernel
theorem dX10_hooks_75 : decode cX10_hooks 75 = .ok (.iload 8, 2) := by decide +kernel
theorem dX10_hooks_77 : decode cX10_hooks 77 = .ok (.idiv, 1) := by decide +kernel
theorem dX10_hooks_78 : decode cX10_hooks 78 = .ok (.istore 9, 2) := by decide +kernel
theorem dX10_hooks_80 : decode cX10_hooks 80 = .ok (.iload 4, 2) := by decide +kernel
theorem dX10_hooks_82 : decode cX10_hooks 82 = .ok (.iload 7, 2) := by decide +kernel
theorem dX10_hooks_84 : decode cX10_hooks 84 = .ok (.imul, 1) := by decide +kernel
theorem dX10_hooks_85 : decode cX10_hooks 85 = .ok (.iload 8, 2) := by decide +kernel
theorem dX10_hooks_87 : decode cX10_hooks 87 = .ok (.idiv, 1) := by decide +kernel
theorem dX10_hooks_88 : decode cX10_hooks 88 = .ok (.istore 10, 2) := by decide +kernel
theorem dX10_hooks_90 : decode cX10_hooks 90 = .ok (.iload 4, 2) := by decide +kernel
theorem dX10_hooks_92 : decode cX10_hooks 92 = .ok (.iload 9, 2) := by decide +kernel
theorem dX10_hooks_94 : decode cX10_hooks 94 = .ok (.isub, 1) := by decide +kernel
theorem dX10_hooks_95 : decode cX10_hooks 95 = .ok (.iload 10, 2) := by decide +kernel
theorem dX10_hooks_97 : decode cX10_hooks 97 = .ok (.isub, 1) := by decide +kernel
theorem dX10_hooks_98 : decode cX10_hooks 98 = .ok (.istore 11, 2) := by decide +kernel
def vfX10_hooks : List Cond := List.cons (.code yX10_hooks cX10_hooks 12 (some .int)) (apW [.methodLink RX10 309 yX10_hooksTrouble, .instanceMethod yX10_hooksTrouble, .selects RX10 yX10_hooksTrouble yX10_hooksTrouble, .initialized RX10, .methodLink RX10 79 yX10_refused, .instanceMethod yX10_refused, .selects RX10 yX10_refused yX10_refused, .fieldLink RX10 10 "HookPier" "plan" "LHookPier$Plan;", .fieldLink RX10 29 "HookPier" "now" "LHookPier$Now;", .fieldLink RX10 146 "HookPier$Now" "line" "[I", .methodLink RX10 184 yX6_wishFor, .instanceMethod yX6_wishFor, .selects RX6 yX6_wishFor yX6_wishFor, .initialized RX6] (apW wsX100 (apW wsX40 (apW vfX10_hooksTrouble (apW vfX10_refused (vfX6_wishFor))))))
theorem ifX10_hooks_X10 : ∀ w ∈ wsX100, w ∈ vfX10_hooks := fun _ h => (List.mem_cons_of_mem _ (List.mem_append_right _ (List.mem_append_left _ h)))
theorem ifX10_hooks_X4 : ∀ w ∈ wsX40, w ∈ vfX10_hooks := fun _ h => (List.mem_cons_of_mem _ (List.mem_append_right _ (List.mem_append_right _ (List.mem_append_left _ h))))
theorem qfX10_hooks : Good vfX10_hooks := gd_cons (by decide +kernel) (gd_app (gd_dec (by decide +kernel) : Good [.methodLink RX10 309 yX10_hooksTrouble, .instanceMethod yX10_hooksTrouble, .selects RX10 yX10_hooksTrouble yX10_hooksTrouble, .initialized RX10, .methodLink RX10 79 yX10_refused, .instanceMethod yX10_refused, .selects RX10 yX10_refused yX10_refused, .fieldLink RX10 10 "HookPier" "plan" "LHookPier$Plan;", .fieldLink RX10 29 "HookPier" "now" "LHookPier$Now;", .fieldLink RX10 146 "HookPier$Now" "line" "[I", .methodLink RX10 184 yX6_wishFor, .instanceMethod yX6_wishFor, .selects RX6 yX6_wishFor yX6_wishFor, .initialized RX6]) (gd_app qsX10 (gd_app qsX4 (gd_app qfX10_hooksTrouble (gd_app qfX10_refused qfX6_wishFor)))))
theorem gfX10_hooks_0 : GoodIn vfX10_hooks (wsV RX10 309 RX10 yX10_hooksTrouble vfX10_hooksTrouble) := goodIn_app (goodIn_r [.methodLink RX10 309 yX10_hooksTrouble, .instanceMethod yX10_hooksTrouble, .selects RX10 yX10_hooksTrouble yX10_hooksTrouble, .initialized RX10] [1, 2, 3, 4] rfl (by decide +kernel)) (goodIn_m (fun _ h => (List.mem_cons_of_mem _ (List.mem_append_right _ (List.mem_append_right _ (List.mem_append_right _ (List.mem_append_left _ h)))))) qfX10_hooksTrouble)
theorem gfX10_hooks_1 : GoodIn vfX10_hooks (wsV RX10 79 RX10 yX10_refused vfX10_refused) := goodIn_app (goodIn_r [.methodLink RX10 79 yX10_refused, .instanceMethod yX10_refused, .selects RX10 yX10_refused yX10_refused, .initialized RX10] [5, 6, 7, 4] rfl (by decide +kernel)) (goodIn_m (fun _ h => (List.mem_cons_of_mem _ (List.mem_append_right _ (List.mem_append_right _ (List.mem_append_right _ (List.mem_append_right _ (List.mem_append_left _ h))))))) qfX10_refused)
theorem gfX10_hooks_2 : GoodIn vfX10_hooks (wsV RX10 184 RX6 yX6_wishFor vfX6_wishFor) := goodIn_app (goodIn_r [.methodLink RX10 184 yX6_wishFor, .instanceMethod yX6_wishFor, .selects RX6 yX6_wishFor yX6_wishFor, .initialized RX6] [11, 12, 13, 14] rfl (by decide +kernel)) (goodIn_m (fun _ h => (List.mem_cons_of_mem _ (List.mem_append_right _ (List.mem_append_right _ (List.mem_append_right _ (List.mem_append_right _ (List.mem_append_right _ h))))))) qfX6_wishFor)
set_option maxHeartbeats 2000000 in
set_option maxRecDepth 100000 in
theorem kfX10_hooks (l : Launch) (dC : Nat → ClassId) (dI : Nat → Nat → Nat) (a0 : Nat) (k1 : Int32) (k2 : Int32) (k3 : Int32) (k4 : Int32) (k5 : Int32) (a6 : Nat) (a7 : Nat) (up : Nat → Nat) (kp : Nat → ClassId) (un : Nat → Nat) (kn : Nat → ClassId) (x_x : TX10_x) (g13 : Value) (g14 : Value) (g15 : Value) (g16 : Value) (g17 : Value) (g18 : Value) (p_p : TX6_p) (n_n : TX4_n) (sz : Nat) (out : (Int32 × TX10_x)) (h : f_X10_hooks k1 k2 k3 k4 k5 x_x p_p n_n = some out) : Met l yX10_hooks vfX10_hooks ({ frames := 3, cells := 0, slots := 0, locals := 67 }) (PC (dC, dI) [.ref a0, .int k1, .int k2, .int k3, .int k4, .int k5] sz ((a0, .inr (7, [.ref a6, g13, g14, .ref a7, g15, g16, g17, g18, .int x_x.1, .int x_x.2])) :: bX6 a6 up kp p_p (bX4 a7 un kn n_n [])) (tX6 kp (tX4 kn ([])))) (va_Qi (S := Unit) (fun (r : Int32) _ => r = out.1) (fun _ t => BC (dC, dI) (va_A ((a0, .inr (7, [.ref a6, g13, g14, .ref a7, g15, g16, g17, g18, .int x_x.1, .int x_x.2])) :: bX6 a6 up kp p_p (bX4 a7 un kn n_n [])) sz) ((a0, .inr (7, [.ref a6, g13, g14, .ref a7, g15, g16, g17, g18, .int out.2.1, .int out.2.2])) :: bX6 a6 up kp p_p (bX4 a7 un kn n_n [])) [] t) (va_A ((a0, .inr (7, [.ref a6, g13, g14, .ref a7, g15, g16, g17, g18, .int x_x.1, .int x_x.2])) :: bX6 a6 up kp p_p (bX4 a7 un kn n_n [])) sz)) 0 0 (va_A ((a0, .inr (7, [.ref a6, g13, g14, .ref a7, g15, g16, g17, g18, .int x_x.1, .int x_x.2])) :: bX6 a6 up kp p_p (bX4 a7 un kn n_n [])) sz) := by
  refine Met.ofW (cc := cX10_hooks) (maxL := 12) (ret := (some .int)) (by decide) rfl ?_
  intro p e s m args below meth c s₁ B0 hml hv
  obtain ⟨rfl, hsz, hP, hK, hD0, hN⟩ := hv
  have hx := B0.exec
  have hb := B0.bytes
  have hr := B0.returns
  have hts := atoms_spec (ws := vfX10_hooks) B0.pre
  have hown : s.vm.findClass RX10 = some m.cls := findClass_of_methodNamed B0.named
  have hlocks := B0.notSynchronized
  subst hsz
  have hD := hD0.self (sz := s.heap.size)
  generalize hAe : va_A ((a0, .inr (7, [.ref a6, g13, g14, .ref a7, g15, g16, g17, g18, .int x_x.1, .int x_x.2])) :: bX6 a6 up kp p_p (bX4 a7 un kn n_n [])) s.heap.size = A at hD ⊢
  have hA : ∀ q : Nat, s.heap.size ≤ q → A q := fun q h => by rw [← hAe]; exact Or.inr h
  have hS : va_S A s.heap s.heap [] := va_S.rf
  have hP : va_P (dC, dI) vwCl ((a0, .inr (7, [.ref a6, g13, g14, .ref a7, g15, g16, g17, g18, .int x_x.1, .int x_x.2])) :: bX6 a6 up kp p_p (bX4 a7 un kn n_n [])) s.heap := hP
  have hl := lv_entry ([.ref a0, .int k1, .int k2, .int k3, .int k4, .int k5]) (n := 12) (Nat.le_of_ble_eq_true rfl)
  rw [lg_entry_eq]
  generalize (lg_sl ([.ref a0, .int k1, .int k2, .int k3, .int k4, .int k5]) ++ List.replicate (12 - (lg_sl ([.ref a0, .int k1, .int k2, .int k3, .int k4, .int k5])).length) Slot.unset).toArray = ls at hl ⊢
  have hl : lv_has ls 12 [(0, .ref a0), (1, .int k1), (2, .int k2), (3, .int k3), (4, .int k4), (5, .int k5)] := hl
  refine W_q (fun QQ hQQ => ?_)
  rw [f_X10_hooks] at h
  refine lv_aload_n hx hb dX10_hooks_0 rfl (lv_at hl 0 rfl) ?_
  refine lv_aload_n hx hb dX10_hooks_1 rfl (lv_at hl 0 rfl) ?_
  refine lv_iload_n hx hb dX10_hooks_2 rfl (lv_at hl 1 rfl) ?_
  refine lv_iload_n hx hb dX10_hooks_3 rfl (lv_at hl 2 rfl) ?_
  refine lv_iload_n hx hb dX10_hooks_4 rfl (lv_at hl 3 rfl) ?_
  refine lv_iload hx hb dX10_hooks_5 (lv_at hl 4 rfl) ?_
  obtain ⟨o7, eo7, h⟩ := bd_of h
  refine cl_i (wc := ((a0, .inr (7, [.ref a6, g13, g14, .ref a7, g15, g16, g17, g18, .int x_x.1, .int x_x.2])) :: bX6 a6 up kp p_p (bX4 a7 un kn n_n []))) (wr := []) (va_runV (As := [.int k1, .int k2, .int k3, .int k4]) (rest := [.ref a0]) ⟨hx, hb, hml, hown, hts⟩ (kfX10_hooksTrouble l dC dI a0 k1 k2 k3 k4 a6 a7 up kp un kn (g13) (g14) (g15) (g16) (g17) (g18) (.int x_x.1) (.int x_x.2) p_p n_n s.heap.size o7 eo7) (cwV 4 hts gfX10_hooks_0 rfl rfl rfl (by decide +kernel) ⟨(Nat.le_of_ble_eq_true rfl), (Nat.le_of_ble_eq_true rfl)⟩) (PV (hP.sub (ws' := ((a0, .inr (7, [.ref a6, g13, g14, .ref a7, g15, g16, g17, g18, .int x_x.1, .int x_x.2])) :: bX6 a6 up kp p_p (bX4 a7 un kn n_n []))) [0, 1, 2, 3, 4, 5, 6, 7, 8, 9, 10, 11, 12, 13, 14, 15] rfl) (hK.sub (tys' := (tX6 kp (tX4 kn ([])))) [0, 1, 2, 3, 4, 5, 6, 7, 8, 9, 10, 11, 12] rfl) (hD.sub (ws' := ((a0, .inr (7, [.ref a6, g13, g14, .ref a7, g15, g16, g17, g18, .int x_x.1, .int x_x.2])) :: bX6 a6 up kp p_p (bX4 a7 un kn n_n []))) [0, 1, 2, 3, 4, 5, 6, 7, 8, 9, 10, 11, 12, 13, 14, 15] (by decide) rfl) hN 0 rfl rfl) rfl rfl hl.1 rfl (lv_room (Nat.le_of_ble_eq_true rfl)) dX10_hooks_7 ⟨(Nat.le_of_ble_eq_true rfl), (Nat.le_of_ble_eq_true rfl)⟩) hP hD hK hS hA [0, 1, 2, 3, 4, 5, 6, 7, 8, 9, 10, 11, 12, 13, 14, 15] [] rfl rfl (by decide) (by decide) (fun r7 _ H locs hw hP hD _ hS => ?_)
  obtain rfl := hw.symm
  have hP : va_P (dC, dI) vwCl ((a0, .inr (7, [.ref a6, g13, g14, .ref a7, g15, g16, g17, g18, .int x_x.1, .int x_x.2])) :: bX6 a6 up kp p_p (bX4 a7 un kn n_n [])) H := hP
  have hD : va_D A ((a0, .inr (7, [.ref a6, g13, g14, .ref a7, g15, g16, g17, g18, .int x_x.1, .int x_x.2])) :: bX6 a6 up kp p_p (bX4 a7 un kn n_n [])) := hD
  obtain ⟨o10, eo10⟩ : ∃ o, o = f_X10_refused o7 x_x := ⟨_, rfl⟩
  have h := nm_of h o10 eo10
  refine cl_i (wc := ([(a0, .inr (7, [.ref a6, g13, g14, .ref a7, g15, g16, g17, g18, .int x_x.1, .int x_x.2]))])) (wr := (bX6 a6 up kp p_p (bX4 a7 un kn n_n []))) (va_runV (As := [.int o7]) (rest := []) ⟨hx, hb, hml, hown, hts⟩ (kfX10_refused l dC dI a0 o7 x_x (.ref a6) (g13) (g14) (.ref a7) (g15) (g16) (g17) (g18) H.size o10 eo10.symm) (cwV 1 hts gfX10_hooks_1 rfl rfl rfl (by decide +kernel) ⟨(Nat.le_of_ble_eq_true rfl), (Nat.le_of_ble_eq_true rfl)⟩) (PV (hP.sub (ws' := ([(a0, .inr (7, [.ref a6, g13, g14, .ref a7, g15, g16, g17, g18, .int x_x.1, .int x_x.2]))])) [0] rfl) (hK.sub (tys' := ([])) [] rfl) (hD.sub (ws' := ([(a0, .inr (7, [.ref a6, g13, g14, .ref a7, g15, g16, g17, g18, .int x_x.1, .int x_x.2]))])) [0] (by decide) rfl) hN 0 rfl rfl) rfl rfl hl.1 rfl (lv_room (Nat.le_of_ble_eq_true rfl)) dX10_hooks_10 ⟨(Nat.le_of_ble_eq_true rfl), (Nat.le_of_ble_eq_true rfl)⟩) hP hD hK hS hA [0] [1, 2, 3, 4, 5, 6, 7, 8, 9, 10, 11, 12, 13, 14, 15] rfl rfl (by decide) (by decide) (fun r10 _ H locs hw hP hD _ hS => ?_)
  obtain ⟨hw, br10⟩ := hw
  obtain rfl := hw
  have hP : va_P (dC, dI) vwCl (bX6 a6 up kp p_p (bX4 a7 un kn n_n ([(a0, .inr (7, [.ref a6, g13, g14, .ref a7, g15, g16, g17, g18, .int o10.2.1, .int o10.2.2]))]))) H := hP
  have hD : va_D A (bX6 a6 up kp p_p (bX4 a7 un kn n_n ([(a0, .inr (7, [.ref a6, g13, g14, .ref a7, g15, g16, g17, g18, .int o10.2.1, .int o10.2.2]))]))) := hD
  refine lv_if_eq (tgt := 18) hx hb dX10_hooks_13 (by decide) (fun c13 => ?_) (fun c13 => ?_)
  · have h := (if_pos c13).symm.trans h
    refine lv_aload_n hx hb dX10_hooks_18 rfl (lv_at hl 0 rfl) ?_
    refine va_get (D := (dC, dI)) (ci := 7) (v := .ref a6) (C := RX10) (T := TX10) (N := 10) hx hb hts ifX10_hooks_X10 hown hK hP 15 rfl rfl 0 (by decide) (hts (.fieldLink RX10 10 "HookPier" "plan" "LHookPier$Plan;") (List.mem_of_getElem? (i := 8) rfl)) (fun _ h9 => h9) rfl dX10_hooks_19 ?_
    refine lv_iload_n hx hb dX10_hooks_22 rfl (lv_at hl 1 rfl) ?_
    refine lv_aload_n hx hb dX10_hooks_23 rfl (lv_at hl 0 rfl) ?_
    refine va_get (D := (dC, dI)) (ci := 7) (v := .ref a7) (C := RX10) (T := TX10) (N := 10) hx hb hts ifX10_hooks_X10 hown hK hP 15 rfl rfl 3 (by decide) (hts (.fieldLink RX10 29 "HookPier" "now" "LHookPier$Now;") (List.mem_of_getElem? (i := 9) rfl)) (fun _ h9 => h9) rfl dX10_hooks_24 ?_
    refine va_get (D := (dC, dI)) (ci := 3) (v := .ref (un 3)) (C := RX4) (T := TX4) (N := 7) hx hb hts ifX10_hooks_X4 hown hK hP 10 rfl rfl 6 (by decide) (hts (.fieldLink RX10 146 "HookPier$Now" "line" "[I") (List.mem_of_getElem? (i := 10) rfl)) (fun _ h9 => h9) rfl dX10_hooks_27 ?_
    refine lv_iload_n hx hb dX10_hooks_30 rfl (lv_at hl 2 rfl) ?_
    obtain ⟨hg31, h⟩ := gA_of h
    refine va_iald hx hb hK hP 14 12 rfl rfl hg31 dX10_hooks_31 ?_
    obtain ⟨o32, eo32, h⟩ := bd_of h
    refine cl_i (wc := (bX6 a6 up kp p_p [])) (wr := (bX4 a7 un kn n_n ([(a0, .inr (7, [.ref a6, g13, g14, .ref a7, g15, g16, g17, g18, .int o10.2.1, .int o10.2.2]))]))) (va_runV (As := [.int k1, .int (n_n.2.2.2.2.2.2 (k2).toNatClampNeg)]) (rest := []) ⟨hx, hb, hml, hown, hts⟩ (kfX6_wishFor l dC dI a6 k1 (n_n.2.2.2.2.2.2 (k2).toNatClampNeg) up kp p_p H.size o32 eo32) (cwV 2 hts gfX10_hooks_2 rfl rfl rfl (by decide +kernel) ⟨(Nat.le_of_ble_eq_true rfl), (Nat.le_of_ble_eq_true rfl)⟩) (PV (hP.sub (ws' := (bX6 a6 up kp p_p [])) [0, 1, 2, 3, 4, 5, 6, 7, 8, 9] rfl) (hK.sub (tys' := (tX6 kp ([]))) [0, 1, 2, 3, 4, 5, 6, 7, 8] rfl) (hD.sub (ws' := (bX6 a6 up kp p_p [])) [0, 1, 2, 3, 4, 5, 6, 7, 8, 9] (by decide) rfl) hN 0 rfl rfl) rfl rfl hl.1 rfl (lv_room (Nat.le_of_ble_eq_true rfl)) dX10_hooks_32 ⟨(Nat.le_of_ble_eq_true rfl), (Nat.le_of_ble_eq_true rfl)⟩) hP hD hK hS hA [0, 1, 2, 3, 4, 5, 6, 7, 8, 9] [10, 11, 12, 13, 14, 15] rfl rfl (by decide) (by decide) (fun r32 _ H locs hw hP hD _ hS => ?_)
    obtain rfl := hw.symm
    have hP : va_P (dC, dI) vwCl (bX4 a7 un kn n_n ((a0, .inr (7, [.ref a6, g13, g14, .ref a7, g15, g16, g17, g18, .int o10.2.1, .int o10.2.2])) :: bX6 a6 up kp p_p [])) H := hP
    have hD : va_D A (bX4 a7 un kn n_n ((a0, .inr (7, [.ref a6, g13, g14, .ref a7, g15, g16, g17, g18, .int o10.2.1, .int o10.2.2])) :: bX6 a6 up kp p_p [])) := hD
    refine lv_istore (lv' := [(6, .int o32), (0, .ref a0), (1, .int k1), (2, .int k2), (3, .int k3), (4, .int k4), (5, .int k5)]) hx hb dX10_hooks_35 hl (by decide) rfl (fun ls hl => ?_)
    refine lv_aload_n hx hb dX10_hooks_37 rfl (lv_at hl 1 rfl) ?_
    refine va_get (D := (dC, dI)) (ci := 7) (v := .ref a6) (C := RX10) (T := TX10) (N := 10) hx hb hts ifX10_hooks_X10 hown hK hP 5 rfl rfl 0 (by decide) (hts (.fieldLink RX10 10 "HookPier" "plan" "LHookPier$Plan;") (List.mem_of_getElem? (i := 8) rfl)) (fun _ h9 => h9) rfl dX10_hooks_38 ?_
    refine lv_iload_n hx hb dX10_hooks_41 rfl (lv_at hl 2 rfl) ?_
    refine lv_aload_n hx hb dX10_hooks_42 rfl (lv_at hl 1 rfl) ?_
    refine va_get (D := (dC, dI)) (ci := 7) (v := .ref a7) (C := RX10) (T := TX10) (N := 10) hx hb hts ifX10_hooks_X10 hown hK hP 5 rfl rfl 3 (by decide) (hts (.fieldLink RX10 29 "HookPier" "now" "LHookPier$Now;") (List.mem_of_getElem? (i := 9) rfl)) (fun _ h9 => h9) rfl dX10_hooks_43 ?_
    refine va_get (D := (dC, dI)) (ci := 3) (v := .ref (un 3)) (C := RX4) (T := TX4) (N := 7) hx hb hts ifX10_hooks_X4 hown hK hP 0 rfl rfl 6 (by decide) (hts (.fieldLink RX10 146 "HookPier$Now" "line" "[I") (List.mem_of_getElem? (i := 10) rfl)) (fun _ h9 => h9) rfl dX10_hooks_46 ?_
    refine lv_iload_n hx hb dX10_hooks_49 rfl (lv_at hl 4 rfl) ?_
    obtain ⟨hg50, h⟩ := gA_of h
    refine va_iald hx hb hK hP 4 12 rfl rfl hg50 dX10_hooks_50 ?_
    obtain ⟨o51, eo51, h⟩ := bd_of h
    refine cl_i (wc := (bX6 a6 up kp p_p [])) (wr := (bX4 a7 un kn n_n ([(a0, .inr (7, [.ref a6, g13, g14, .ref a7, g15, g16, g17, g18, .int o10.2.1, .int o10.2.2]))]))) (va_runV (As := [.int k1, .int (n_n.2.2.2.2.2.2 (k3).toNatClampNeg)]) (rest := []) ⟨hx, hb, hml, hown, hts⟩ (kfX6_wishFor l dC dI a6 k1 (n_n.2.2.2.2.2.2 (k3).toNatClampNeg) up kp p_p H.size o51 eo51) (cwV 2 hts gfX10_hooks_2 rfl rfl rfl (by decide +kernel) ⟨(Nat.le_of_ble_eq_true rfl), (Nat.le_of_ble_eq_true rfl)⟩) (PV (hP.sub (ws' := (bX6 a6 up kp p_p [])) [6, 7, 8, 9, 10, 11, 12, 13, 14, 15] rfl) (hK.sub (tys' := (tX6 kp ([]))) [0, 1, 2, 3, 4, 5, 6, 7, 8] rfl) (hD.sub (ws' := (bX6 a6 up kp p_p [])) [6, 7, 8, 9, 10, 11, 12, 13, 14, 15] (by decide) rfl) hN 0 rfl rfl) rfl rfl hl.1 rfl (lv_room (Nat.le_of_ble_eq_true rfl)) dX10_hooks_51 ⟨(Nat.le_of_ble_eq_true rfl), (Nat.le_of_ble_eq_true rfl)⟩) hP hD hK hS hA [6, 7, 8, 9, 10, 11, 12, 13, 14, 15] [0, 1, 2, 3, 4, 5] rfl rfl (by decide) (by decide) (fun r51 _ H locs hw hP hD _ hS => ?_)
    obtain rfl := hw.symm
    have hP : va_P (dC, dI) vwCl (bX4 a7 un kn n_n ((a0, .inr (7, [.ref a6, g13, g14, .ref a7, g15, g16, g17, g18, .int o10.2.1, .int o10.2.2])) :: bX6 a6 up kp p_p [])) H := hP
    have hD : va_D A (bX4 a7 un kn n_n ((a0, .inr (7, [.ref a6, g13, g14, .ref a7, g15, g16, g17, g18, .int o10.2.1, .int o10.2.2])) :: bX6 a6 up kp p_p [])) := hD
    refine lv_istore (lv' := [(7, .int o51), (6, .int o32), (0, .ref a0), (1, .int k1), (2, .int k2), (3, .int k3), (4, .int k4), (5, .int k5)]) hx hb dX10_hooks_54 hl (by decide) rfl (fun ls hl => ?_)
    refine lv_iload hx hb dX10_hooks_56 (lv_at hl 1 rfl) ?_
    refine lv_iload hx hb dX10_hooks_58 (lv_at hl 0 rfl) ?_
    refine lv_iadd hx hb dX10_hooks_60 ?_
    refine lv_istore (lv' := [(8, .int (o32 + o51)), (7, .int o51), (6, .int o32), (0, .ref a0), (1, .int k1), (2, .int k2), (3, .int k3), (4, .int k4), (5, .int k5)]) hx hb dX10_hooks_61 hl (by decide) rfl (fun ls hl => ?_)
    refine lv_iload hx hb dX10_hooks_63 (lv_at hl 0 rfl) ?_
    refine lv_if_ne (tgt := 70) hx hb dX10_hooks_65 (by decide) (fun c65 => ?_) (fun c65 => ?_)
    · have h := (if_neg c65).symm.trans h
      refine lv_iload hx hb dX10_hooks_70 (lv_at hl 7 rfl) ?_
      refine lv_iload hx hb dX10_hooks_72 (lv_at hl 2 rfl) ?_
      refine lv_imul hx hb dX10_hooks_74 ?_
      refine lv_iload hx hb dX10_hooks_75 (lv_at hl 0 rfl) ?_
      obtain ⟨hg77, h⟩ := gZi_of h
      refine lv_idiv hx hb dX10_hooks_77 hg77 ?_
      refine lv_istore (lv' := [(9, .int ((k4 * o32) / (o32 + o51))), (8, .int (o32 + o51)), (7, .int o51), (6, .int o32), (0, .ref a0), (1, .int k1), (2, .int k2), (3, .int k3), (4, .int k4), (5, .int k5)]) hx hb dX10_hooks_78 hl (by decide) rfl (fun ls hl => ?_)
      refine lv_iload hx hb dX10_hooks_80 (lv_at hl 8 rfl) ?_
      refine lv_iload hx hb dX10_hooks_82 (lv_at hl 2 rfl) ?_
      refine lv_imul hx hb dX10_hooks_84 ?_
      refine lv_iload hx hb dX10_hooks_85 (lv_at hl 1 rfl) ?_
      obtain ⟨hg87, h⟩ := gZi_of h
      refine lv_idiv hx hb dX10_hooks_87 hg87 ?_
      refine lv_istore (lv' := [(10, .int ((k4 * o51) / (o32 + o51))), (9, .int ((k4 * o32) / (o32 + o51))), (8, .int (o32 + o51)), (7, .int o51), (6, .int o32), (0, .ref a0), (1, .int k1), (2, .int k2), (3, .int k3), (4, .int k4), (5, .int k5)]) hx hb dX10_hooks_88 hl (by decide) rfl (fun ls hl => ?_)
      refine lv_iload hx hb dX10_hooks_90 (lv_at hl 9 rfl) ?_
      refine lv_iload hx hb dX10_hooks_92 (lv_at hl 1 rfl) ?_
      refine lv_isub hx hb dX10_hooks_94 ?_
      refine lv_iload hx hb dX10_hooks_95 (lv_at hl 0 rfl) ?_
      refine lv_isub hx hb dX10_hooks_97 ?_
      refine lv_topi (fun z97 ez97 => ?_)
      have h := nm_of h z97 ez97
      refine lv_istore (lv' := [(11, .int z97), (10, .int ((k4 * o51) / (o32 + o51))), (9, .int ((k4 * o32) / (o32 + o51))), (8, .int (o32 + o51)), (7, .int o51), (6, .int o32), (0, .ref a0), (1, .int k1), (2, .int k2), (3, .int k3), (4, .int k4), (5, .int k5)]) hx hb dX10_hooks_98 hl (by decide) rfl (fun ls hl => ?_)
      refine lv_iload hx hb dX10_hooks_100 (lv_at hl 11 rfl) ?_
      refine lv_if_eq (tgt := 123) hx hb dX10_hooks_102 (by decide) (fun c102 => ?_) (fun c102 => ?_)
      · have h := (if_pos c102).symm.trans h
        refine lv_iload hx hb dX10_hooks_123 (lv_at hl 5 rfl) ?_
        refine lv_iload hx hb dX10_hooks_125 (lv_at hl 4 rfl) ?_
        refine lv_icmp_lt (tgt := 138) hx hb dX10_hooks_127 (by decide) (fun c127 => ?_) (fun c127 => ?_)
        · have h := (if_pos c127).symm.trans h
          refine lv_iload hx hb dX10_hooks_138 (lv_at hl 2 rfl) ?_
          obtain rfl := Option.some.inj h
          have hP9 := hP.sub (ws' := ((a0, .inr (7, [.ref a6, g13, g14, .ref a7, g15, g16, g17, g18, .int o10.2.1, .int o10.2.2])) :: bX6 a6 up kp p_p (bX4 a7 un kn n_n []))) [5, 6, 7, 8, 9, 10, 11, 12, 13, 14, 15, 0, 1, 2, 3, 4] rfl
          have hD9 := hD.sub (ws' := ((a0, .inr (7, [.ref a6, g13, g14, .ref a7, g15, g16, g17, g18, .int o10.2.1, .int o10.2.2])) :: bX6 a6 up kp p_p (bX4 a7 un kn n_n []))) [5, 6, 7, 8, 9, 10, 11, 12, 13, 14, 15, 0, 1, 2, 3, 4] (by decide) rfl
          have hK9 := hK.sub (tys' := []) [] rfl
          rw [hQQ]
          exact W.iret (v := ((k4 * o32) / (o32 + o51))) hx hb hr (fun t ht hW => ⟨⟨((k4 * o32) / (o32 + o51)), (), rfl, rfl, by rw [ht]; exact hP9, va_K.moved hW.alike hK9, hD9⟩, hS.F ht⟩) hS.2.2 dX10_hooks_140
        · have h := (if_neg c127).symm.trans h
          refine lv_iload hx hb dX10_hooks_130 (lv_at hl 2 rfl) ?_
          refine lv_iload hx hb dX10_hooks_132 (lv_at hl 0 rfl) ?_
          refine lv_iadd hx hb dX10_hooks_134 ?_
          refine lv_goto (tgt := 140) hx hb dX10_hooks_135 (by decide) ?_
          obtain rfl := Option.some.inj h
          have hP9 := hP.sub (ws' := ((a0, .inr (7, [.ref a6, g13, g14, .ref a7, g15, g16, g17, g18, .int o10.2.1, .int o10.2.2])) :: bX6 a6 up kp p_p (bX4 a7 un kn n_n []))) [5, 6, 7, 8, 9, 10, 11, 12, 13, 14, 15, 0, 1, 2, 3, 4] rfl
          have hD9 := hD.sub (ws' := ((a0, .inr (7, [.ref a6, g13, g14, .ref a7, g15, g16, g17, g18, .int o10.2.1, .int o10.2.2])) :: bX6 a6 up kp p_p (bX4 a7 un kn n_n []))) [5, 6, 7, 8, 9, 10, 11, 12, 13, 14, 15, 0, 1, 2, 3, 4] (by decide) rfl
          have hK9 := hK.sub (tys' := []) [] rfl
          rw [hQQ]
          exact W.iret (v := (((k4 * o32) / (o32 + o51)) + z97)) hx hb hr (fun t ht hW => ⟨⟨(((k4 * o32) / (o32 + o51)) + z97), (), rfl, rfl, by rw [ht]; exact hP9, va_K.moved hW.alike hK9, hD9⟩, hS.F ht⟩) hS.2.2 dX10_hooks_140
      · have h := (if_neg c102).symm.trans h
        refine lv_iload hx hb dX10_hooks_105 (lv_at hl 5 rfl) ?_
        refine lv_iload hx hb dX10_hooks_107 (lv_at hl 4 rfl) ?_
        refine lv_icmp_lt (tgt := 117) hx hb dX10_hooks_109 (by decide) (fun c109 => ?_) (fun c109 => ?_)
        · have h := (if_pos c109).symm.trans h
          refine lv_iload hx hb dX10_hooks_117 (lv_at hl 1 rfl) ?_
          refine lv_iload hx hb dX10_hooks_119 (lv_at hl 0 rfl) ?_
          refine lv_iadd hx hb dX10_hooks_121 ?_
          obtain rfl := Option.some.inj h
          have hP9 := hP.sub (ws' := ((a0, .inr (7, [.ref a6, g13, g14, .ref a7, g15, g16, g17, g18, .int o10.2.1, .int o10.2.2])) :: bX6 a6 up kp p_p (bX4 a7 un kn n_n []))) [5, 6, 7, 8, 9, 10, 11, 12, 13, 14, 15, 0, 1, 2, 3, 4] rfl
          have hD9 := hD.sub (ws' := ((a0, .inr (7, [.ref a6, g13, g14, .ref a7, g15, g16, g17, g18, .int o10.2.1, .int o10.2.2])) :: bX6 a6 up kp p_p (bX4 a7 un kn n_n []))) [5, 6, 7, 8, 9, 10, 11, 12, 13, 14, 15, 0, 1, 2, 3, 4] (by decide) rfl
          have hK9 := hK.sub (tys' := []) [] rfl
          rw [hQQ]
          exact W.iret (v := (((k4 * o51) / (o32 + o51)) + z97)) hx hb hr (fun t ht hW => ⟨⟨(((k4 * o51) / (o32 + o51)) + z97), (), rfl, rfl, by rw [ht]; exact hP9, va_K.moved hW.alike hK9, hD9⟩, hS.F ht⟩) hS.2.2 dX10_hooks_122
        · have h := (if_neg c109).symm.trans h
          refine lv_iload hx hb dX10_hooks_112 (lv_at hl 1 rfl) ?_
          refine lv_goto (tgt := 122) hx hb dX10_hooks_114 (by decide) ?_
          obtain rfl := Option.some.inj h
          have hP9 := hP.sub (ws' := ((a0, .inr (7, [.ref a6, g13, g14, .ref a7, g15, g16, g17, g18, .int o10.2.1, .int o10.2.2])) :: bX6 a6 up kp p_p (bX4 a7 un kn n_n []))) [5, 6, 7, 8, 9, 10, 11, 12, 13, 14, 15, 0, 1, 2, 3, 4] rfl
          have hD9 := hD.sub (ws' := ((a0, .inr (7, [.ref a6, g13, g14, .ref a7, g15, g16, g17, g18, .int o10.2.1, .int o10.2.2])) :: bX6 a6 up kp p_p (bX4 a7 un kn n_n []))) [5, 6, 7, 8, 9, 10, 11, 12, 13, 14, 15, 0, 1, 2, 3, 4] (by decide) rfl
          have hK9 := hK.sub (tys' := []) [] rfl
          rw [hQQ]
          exact W.iret (v := ((k4 * o51) / (o32 + o51))) hx hb hr (fun t ht hW => ⟨⟨((k4 * o51) / (o32 + o51)), (), rfl, rfl, by rw [ht]; exact hP9, va_K.moved hW.alike hK9, hD9⟩, hS.F ht⟩) hS.2.2 dX10_hooks_122
    · have h := (if_pos c65).symm.trans h
      refine lv_iconst (v := 0) hx hb dX10_hooks_68 (by decide) ?_
      obtain rfl := Option.some.inj h
      have hP9 := hP.sub (ws' := ((a0, .inr (7, [.ref a6, g13, g14, .ref a7, g15, g16, g17, g18, .int o10.2.1, .int o10.2.2])) :: bX6 a6 up kp p_p (bX4 a7 un kn n_n []))) [5, 6, 7, 8, 9, 10, 11, 12, 13, 14, 15, 0, 1, 2, 3, 4] rfl
      have hD9 := hD.sub (ws' := ((a0, .inr (7, [.ref a6, g13, g14, .ref a7, g15, g16, g17, g18, .int o10.2.1, .int o10.2.2])) :: bX6 a6 up kp p_p (bX4 a7 un kn n_n []))) [5, 6, 7, 8, 9, 10, 11, 12, 13, 14, 15, 0, 1, 2, 3, 4] (by decide) rfl
      have hK9 := hK.sub (tys' := []) [] rfl
      rw [hQQ]
      exact W.iret (v := (0 : Int32)) hx hb hr (fun t ht hW => ⟨⟨(0 : Int32), (), rfl, rfl, by rw [ht]; exact hP9, va_K.moved hW.alike hK9, hD9⟩, hS.F ht⟩) hS.2.2 dX10_hooks_69
  · have h := (if_neg c13).symm.trans h
    refine lv_iconst (v := (-1)) hx hb dX10_hooks_16 (by decide) ?_
    obtain rfl := Option.some.inj h
    have hP9 := hP.sub (ws' := ((a0, .inr (7, [.ref a6, g13, g14, .ref a7, g15, g16, g17, g18, .int o10.2.1, .int o10.2.2])) :: bX6 a6 up kp p_p (bX4 a7 un kn n_n []))) [15, 0, 1, 2, 3, 4, 5, 6, 7, 8, 9, 10, 11, 12, 13, 14] rfl
    have hD9 := hD.sub (ws' := ((a0, .inr (7, [.ref a6, g13, g14, .ref a7, g15, g16, g17, g18, .int o10.2.1, .int o10.2.2])) :: bX6 a6 up kp p_p (bX4 a7 un kn n_n []))) [15, 0, 1, 2, 3, 4, 5, 6, 7, 8, 9, 10, 11, 12, 13, 14] (by decide) rfl
    have hK9 := hK.sub (tys' := []) [] rfl
    rw [hQQ]
    exact W.iret (v := (-1 : Int32)) hx hb hr (fun t ht hW => ⟨⟨(-1 : Int32), (), rfl, rfl, by rw [ht]; exact hP9, va_K.moved hW.alike hK9, hD9⟩, hS.F ht⟩) hS.2.2 dX10_hooks_17
theorem dX9_gain_0 : decode cX9_gain 0 = .ok (.iload_n 1, 1) := by decide +kernel
theorem dX9_gain_1 : decode cX9_gain 1 = .ok (.iload_n 2, 1) := by decide +kernel
theorem dX9_gain_10 : decode cX9_gain 10 = .ok (.iload_n 0, 1) := by decide +kernel
theorem dX9_gain_11 : decode cX9_gain 11 = .ok (.iload_n 1, 1) := by decide +kernel
theorem dX9_gain_12 : decode cX9_gain 12 = .ok (.imul, 1) := by decide +kernel
theorem dX9_gain_13 : decode cX9_gain 13 = .ok (.iload_n 3, 1) := by decide +kernel
theorem dX9_gain_14 : decode cX9_gain 14 = .ok (.idiv, 1) := by decide +kernel
theorem dX9_gain_15 : decode cX9_gain 15 = .ok (.iconst 2, 1) := by decide +kernel
theorem dX9_gain_16 : decode cX9_gain 16 = .ok (.iload_n 1, 1) := by decide +kernel
theorem dX9_gain_17 : decode cX9_gain 17 = .ok (.imul, 1) := by decide +kernel
theorem dX9_gain_18 : decode cX9_gain 18 = .ok (.isub, 1) := by decide +kernel
theorem dX9_gain_19 : decode cX9_gain 19 = .ok (.ireturn, 1) := by decide +kernel
theorem dX9_gain_2 : decode cX9_gain 2 = .ok (.iadd, 1) := by decide +kernel
theorem dX9_gain_3 : decode cX9_gain 3 = .ok (.istore_n 3, 1) := by decide +kernel
theorem dX9_gain_4 : decode cX9_gain 4 = .ok (.iload_n 3, 1) := by decide +kernel
theorem dX9_gain_5 : decode cX9_gain 5 = .ok (.ifCond .ne 5, 3) := by decide +kernel
theorem dX9_gain_8 : decode cX9_gain 8 = .ok (.iconst 0, 1) := by decide +kernel
theorem dX9_gain_9 : decode cX9_gain 9 = .ok (.ireturn, 1) := by decide +kernel
def vfX9_gain : List Cond := .code yX9_gain cX9_gain 4 (some .int) :: ([])
theorem qfX9_gain : Good vfX9_gain := gd_cons (by decide +kernel) (gd_dec (by decide +kernel) : Good [])
set_option maxHeartbeats 2000000 in
set_option maxRecDepth 100000 in
theorem kfX9_gain (l : Launch) (dC : Nat → ClassId) (dI : Nat → Nat → Nat) (k0 : Int32) (k1 : Int32) (k2 : Int32) (sz : Nat) (out : Int32) (h : f_X9_gain k0 k1 k2 = some out) : Met l yX9_gain vfX9_gain ({ frames := 0, cells := 0, slots := 0, locals := 0 }) (PC (dC, dI) [.int k0, .int k1, .int k2] sz [] ([])) (va_Qi (S := Unit) (fun (r : Int32) _ => r = out) (fun _ t => BC (dC, dI) (va_A [] sz) [] [] t) (va_A [] sz)) 0 0 (va_A [] sz) := by
  refine Met.ofW (cc := cX9_gain) (maxL := 4) (ret := (some .int)) (by decide) rfl ?_
  intro p e s m args below meth c s₁ B0 hml hv
  obtain ⟨rfl, hsz, hP, hK, hD0, hN⟩ := hv
  have hx := B0.exec
  have hb := B0.bytes
  have hr := B0.returns
  have hts := atoms_spec (ws := vfX9_gain) B0.pre
  have hown : s.vm.findClass RX9 = some m.cls := findClass_of_methodNamed B0.named
  have hlocks := B0.notSynchronized
  subst hsz
  have hD := hD0.self (sz := s.heap.size)
  generalize hAe : va_A [] s.heap.size = A at hD ⊢
  have hA : ∀ q : Nat, s.heap.size ≤ q → A q := fun q h => by rw [← hAe]; exact Or.inr h
  have hS : va_S A s.heap s.heap [] := va_S.rf
  have hP : va_P (dC, dI) vwCl [] s.heap := hP
  have hl := lv_entry ([.int k0, .int k1, .int k2]) (n := 4) (Nat.le_of_ble_eq_true rfl)
  rw [lg_entry_eq]
  generalize (lg_sl ([.int k0, .int k1, .int k2]) ++ List.replicate (4 - (lg_sl ([.int k0, .int k1, .int k2])).length) Slot.unset).toArray = ls at hl ⊢
  have hl : lv_has ls 4 [(0, .int k0), (1, .int k1), (2, .int k2)] := hl
  refine W_q (fun QQ hQQ => ?_)
  rw [f_X9_gain] at h
  refine lv_iload_n hx hb dX9_gain_0 rfl (lv_at hl 1 rfl) ?_
  refine lv_iload_n hx hb dX9_gain_1 rfl (lv_at hl 2 rfl) ?_
  refine lv_iadd hx hb dX9_gain_2 ?_
  refine lv_istore_n (lv' := [(3, .int (k1 + k2)), (0, .int k0), (1, .int k1), (2, .int k2)]) hx hb dX9_gain_3 rfl hl (by decide) rfl (fun ls hl => ?_)
  refine lv_iload_n hx hb dX9_gain_4 rfl (lv_at hl 0 rfl) ?_
  refine lv_if_ne (tgt := 10) hx hb dX9_gain_5 (by decide) (fun c5 => ?_) (fun c5 => ?_)
  · have h := (if_neg c5).symm.trans h
    refine lv_iload_n hx hb dX9_gain_10 rfl (lv_at hl 1 rfl) ?_
    refine lv_iload_n hx hb dX9_gain_11 rfl (lv_at hl 2 rfl) ?_
    refine lv_imul hx hb dX9_gain_12 ?_
    refine lv_iload_n hx hb dX9_gain_13 rfl (lv_at hl 0 rfl) ?_
    obtain ⟨hg14, h⟩ := gZi_of h
    refine lv_idiv hx hb dX9_gain_14 hg14 ?_
    refine lv_iconst (v := 2) hx hb dX9_gain_15 (by decide) ?_
    refine lv_iload_n hx hb dX9_gain_16 rfl (lv_at hl 2 rfl) ?_
    refine lv_imul hx hb dX9_gain_17 ?_
    refine lv_isub hx hb dX9_gain_18 ?_
    obtain rfl := Option.some.inj h
    have hP9 := hP.sub (ws' := []) [] rfl
    have hD9 := hD.sub (ws' := []) [] (by decide) rfl
    have hK9 := hK.sub (tys' := []) [] rfl
    rw [hQQ]
    exact W.iret (v := (((k0 * k1) / (k1 + k2)) - ((2 : Int32) * k1))) hx hb hr (fun t ht hW => ⟨⟨(((k0 * k1) / (k1 + k2)) - ((2 : Int32) * k1)), (), rfl, rfl, by rw [ht]; exact hP9, va_K.moved hW.alike hK9, hD9⟩, hS.F ht⟩) hS.2.2 dX9_gain_19
  · have h := (if_pos c5).symm.trans h
    refine lv_iconst (v := 0) hx hb dX9_gain_8 (by decide) ?_
    obtain rfl := Option.some.inj h
    have hP9 := hP.sub (ws' := []) [] rfl
    have hD9 := hD.sub (ws' := []) [] (by decide) rfl
    have hK9 := hK.sub (tys' := []) [] rfl
    rw [hQQ]
    exact W.iret (v := (0 : Int32)) hx hb hr (fun t ht hW => ⟨⟨(0 : Int32), (), rfl, rfl, by rw [ht]; exact hP9, va_K.moved hW.alike hK9, hD9⟩, hS.F ht⟩) hS.2.2 dX9_gain_9
theorem dX10_lines_0 : decode cX10_lines 0 = .ok (.iload_n 1, 1) := by decide +kernel
theorem dX10_lines_1 : decode cX10_lines 1 = .ok (.iconst 0, 1) := by decide +kernel
theorem dX10_lines_10 : decode cX10_lines 10 = .ok (.iload_n 2, 1) := by decide +kernel
theorem dX10_lines_11 : decode cX10_lines 11 = .ok (.iconst 0, 1) := by decide +kernel
theorem dX10_lines_12 : decode cX10_lines 12 = .ok (.bipush 6, 2) := by decide +kernel
theorem dX10_lines_14 : decode cX10_lines 14 = .ok (.invokestatic 75, 3) := by decide +kernel
theorem dX10_lines_17 : decode cX10_lines 17 = .ok (.ifCond .eq 17, 3) := by decide +kernel
theorem dX10_lines_2 : decode cX10_lines 2 = .ok (.bipush 99, 2) := by decide +kernel
theorem dX10_lines_20 : decode cX10_lines 20 = .ok (.iload_n 3, 1) := by decide +kernel
theorem dX10_lines_21 : decode cX10_lines 21 = .ok (.iconst 0, 1) := by decide +kernel
theorem dX10_lines_22 : decode cX10_lines 22 = .ok (.bipush 6, 2) := by decide +kernel
theorem dX10_lines_24 : decode cX10_lines 24 = .ok (.invokestatic 75, 3) := by decide +kernel
theorem dX10_lines_27 : decode cX10_lines 27 = .ok (.ifCond .eq 7, 3) := by decide +kernel
theorem dX10_lines_30 : decode cX10_lines 30 = .ok (.iconst 1, 1) := by decide +kernel
theorem dX10_lines_31 : decode cX10_lines 31 = .ok (.goto 4, 3) := by decide +kernel
theorem dX10_lines_34 : decode cX10_lines 34 = .ok (.iconst 0, 1) := by decide +kernel
theorem dX10_lines_35 : decode cX10_lines 35 = .ok (.istore 5, 2) := by decide +kernel
theorem dX10_lines_37 : decode cX10_lines 37 = .ok (.aload_n 0, 1) := by decide +kernel
theorem dX10_lines_38 : decode cX10_lines 38 = .ok (.aload_n 0, 1) := by decide +kernel
theorem dX10_lines_39 : decode cX10_lines 39 = .ok (.iload 5, 2) := by decide +kernel
theorem dX10_lines_4 : decode cX10_lines 4 = .ok (.invokestatic 75, 3) := by decide +kernel
theorem dX10_lines_41 : decode cX10_lines 41 = .ok (.invokevirtual 169, 3) := by decide +kernel
theorem dX10_lines_44 : decode cX10_lines 44 = .ok (.invokevirtual 79, 3) := by decide +kernel
theorem dX10_lines_47 : decode cX10_lines 47 = .ok (.ifCond .eq 6, 3) := by decide +kernel
theorem dX10_lines_50 : decode cX10_lines 50 = .ok (.bipush (-100), 2) := by decide +kernel
theorem dX10_lines_52 : decode cX10_lines 52 = .ok (.ireturn, 1) := by decide +kernel
theorem dX10_lines_53 : decode cX10_lines 53 = .ok (.iload 4, 2) := by decide +kernel
theorem dX10_lines_55 : decode cX10_lines 55 = .ok (.ifCond .eq 12, 3) := by decide +kernel
theorem dX10_lines_58 : decode cX10_lines 58 = .ok (.iload_n 1, 1) := by decide +kernel
theorem dX10_lines_59 : decode cX10_lines 59 = .ok (.iload_n 3, 1) := by decide +kernel
theorem dX10_lines_60 : decode cX10_lines 60 = .ok (.iload_n 2, 1) := by decide +kernel
theorem dX10_lines_61 : decode cX10_lines 61 = .ok (.invokestatic 312, 3) := by decide +kernel
theorem dX10_lines_64 : decode cX10_lines 64 = .ok (.goto 9, 3) := by decide +kernel
theorem dX10_lines_67 : decode cX10_lines 67 = .ok (.iload_n 1, 1) := by decide +kernel
theorem dX10_lines_68 : decode cX10_lines 68 = .ok (.iload_n 2, 1) := by decide +kernel
theorem dX10_lines_69 : decode cX10_lines 69 = .ok (.iload_n 3, 1) := by decide +kernel
theorem dX10_lines_7 : decode cX10_lines 7 = .ok (.ifCond .eq 27, 3) := by decide +kernel
theorem dX10_lines_70 : decode cX10_lines 70 = .ok (.invokestatic 312, 3) := by decide +kernel
theorem dX10_lines_73 : decode cX10_lines 73 = .ok (.ireturn, 1) := by decide +kernel
def vfX10_lines : List Cond := List.cons (.code yX10_lines cX10_lines 6 (some .int)) (apW [.methodLink RX10 75 yX10_within, .static yX10_within, .initialized RX10, .methodLink RX10 169 yX10_numberTrouble, .instanceMethod yX10_numberTrouble, .selects RX10 yX10_numberTrouble yX10_numberTrouble, .methodLink RX10 79 yX10_refused, .instanceMethod yX10_refused, .selects RX10 yX10_refused yX10_refused, .methodLink RX10 312 yX9_gain, .static yX9_gain, .initialized RX9] (apW vfX10_within (apW vfX10_numberTrouble (apW vfX10_refused (vfX9_gain)))))
theorem qfX10_lines : Good vfX10_lines := gd_cons (by decide +kernel) (gd_app (gd_dec (by decide +kernel) : Good [.methodLink RX10 75 yX10_within, .static yX10_within, .initialized RX10, .methodLink RX10 169 yX10_numberTrouble, .instanceMethod yX10_numberTrouble, .selects RX10 yX10_numberTrouble yX10_numberTrouble, .methodLink RX10 79 yX10_refused, .instanceMethod yX10_refused, .selects RX10 yX10_refused yX10_refused, .methodLink RX10 312 yX9_gain, .static yX9_gain, .initialized RX9]) (gd_app qfX10_within (gd_app qfX10_numberTrouble (gd_app qfX10_refused qfX9_gain))))
theorem gfX10_lines_0 : GoodIn vfX10_lines (va_wsS RX10 75 yX10_within vfX10_within) := goodIn_app (goodIn_r [.methodLink RX10 75 yX10_within, .static yX10_within, .initialized RX10] [1, 2, 3] rfl (by decide +kernel)) (goodIn_m (fun _ h => (List.mem_cons_of_mem _ (List.mem_append_right _ (List.mem_append_left _ h)))) qfX10_within)
theorem gfX10_lines_1 : GoodIn vfX10_lines (wsV RX10 169 RX10 yX10_numberTrouble vfX10_numberTrouble) := goodIn_app (goodIn_r [.methodLink RX10 169 yX10_numberTrouble, .instanceMethod yX10_numberTrouble, .selects RX10 yX10_numberTrouble yX10_numberTrouble, .initialized RX10] [4, 5, 6, 3] rfl (by decide +kernel)) (goodIn_m (fun _ h => (List.mem_cons_of_mem _ (List.mem_append_right _ (List.mem_append_right _ (List.mem_append_left _ h))))) qfX10_numberTrouble)
theorem gfX10_lines_2 : GoodIn vfX10_lines (wsV RX10 79 RX10 yX10_refused vfX10_refused) := goodIn_app (goodIn_r [.methodLink RX10 79 yX10_refused, .instanceMethod yX10_refused, .selects RX10 yX10_refused yX10_refused, .initialized RX10] [7, 8, 9, 3] rfl (by decide +kernel)) (goodIn_m (fun _ h => (List.mem_cons_of_mem _ (List.mem_append_right _ (List.mem_append_right _ (List.mem_append_right _ (List.mem_append_left _ h)))))) qfX10_refused)
theorem gfX10_lines_3 : GoodIn vfX10_lines (va_wsS RX10 312 yX9_gain vfX9_gain) := goodIn_app (goodIn_r [.methodLink RX10 312 yX9_gain, .static yX9_gain, .initialized RX9] [10, 11, 12] rfl (by decide +kernel)) (goodIn_m (fun _ h => (List.mem_cons_of_mem _ (List.mem_append_right _ (List.mem_append_right _ (List.mem_append_right _ (List.mem_append_right _ h)))))) qfX9_gain)
set_option maxHeartbeats 2000000 in
set_option maxRecDepth 100000 in
theorem kfX10_lines (l : Launch) (dC : Nat → ClassId) (dI : Nat → Nat → Nat) (a0 : Nat) (k1 : Int32) (k2 : Int32) (k3 : Int32) (k4 : Int32) (a5 : Nat) (up : Nat → Nat) (kp : Nat → ClassId) (x_x : TX10_x) (g9 : Value) (g10 : Value) (g11 : Value) (g12 : Value) (g13 : Value) (g14 : Value) (g15 : Value) (p_p : TX6_p) (sz : Nat) (out : (Int32 × TX10_x)) (h : f_X10_lines k1 k2 k3 k4 x_x p_p = some out) : Met l yX10_lines vfX10_lines ({ frames := 2, cells := 0, slots := 0, locals := 42 }) (PC (dC, dI) [.ref a0, .int k1, .int k2, .int k3, .int k4] sz ((a0, .inr (7, [.ref a5, g9, g10, g11, g12, g13, g14, g15, .int x_x.1, .int x_x.2])) :: bX6 a5 up kp p_p []) (tX6 kp ([]))) (va_Qi (S := Unit) (fun (r : Int32) _ => r = out.1) (fun _ t => BC (dC, dI) (va_A ((a0, .inr (7, [.ref a5, g9, g10, g11, g12, g13, g14, g15, .int x_x.1, .int x_x.2])) :: bX6 a5 up kp p_p []) sz) ((a0, .inr (7, [.ref a5, g9, g10, g11, g12, g13, g14, g15, .int out.2.1, .int out.2.2])) :: bX6 a5 up kp p_p []) [] t) (va_A ((a0, .inr (7, [.ref a5, g9, g10, g11, g12, g13, g14, g15, .int x_x.1, .int x_x.2])) :: bX6 a5 up kp p_p []) sz)) 0 0 (va_A ((a0, .inr (7, [.ref a5, g9, g10, g11, g12, g13, g14, g15, .int x_x.1, .int x_x.2])) :: bX6 a5 up kp p_p []) sz) := by
  refine Met.ofW (cc := cX10_lines) (maxL := 6) (ret := (some .int)) (by decide) rfl ?_
  intro p e s m args below meth c s₁ B0 hml hv
  obtain ⟨rfl, hsz, hP, hK, hD0, hN⟩ := hv
  have hx := B0.exec
  have hb := B0.bytes
  have hr := B0.returns
  have hts := atoms_spec (ws := vfX10_lines) B0.pre
  have hown : s.vm.findClass RX10 = some m.cls := findClass_of_methodNamed B0.named
  have hlocks := B0.notSynchronized
  subst hsz
  have hD := hD0.self (sz := s.heap.size)
  generalize hAe : va_A ((a0, .inr (7, [.ref a5, g9, g10, g11, g12, g13, g14, g15, .int x_x.1, .int x_x.2])) :: bX6 a5 up kp p_p []) s.heap.size = A at hD ⊢
  have hA : ∀ q : Nat, s.heap.size ≤ q → A q := fun q h => by rw [← hAe]; exact Or.inr h
  have hS : va_S A s.heap s.heap [] := va_S.rf
  have hP : va_P (dC, dI) vwCl ((a0, .inr (7, [.ref a5, g9, g10, g11, g12, g13, g14, g15, .int x_x.1, .int x_x.2])) :: bX6 a5 up kp p_p []) s.heap := hP
  have hl := lv_entry ([.ref a0, .int k1, .int k2, .int k3, .int k4]) (n := 6) (Nat.le_of_ble_eq_true rfl)
  rw [lg_entry_eq]
  generalize (lg_sl ([.ref a0, .int k1, .int k2, .int k3, .int k4]) ++ List.replicate (6 - (lg_sl ([.ref a0, .int k1, .int k2, .int k3, .int k4])).length) Slot.unset).toArray = ls at hl ⊢
  have hl : lv_has ls 6 [(0, .ref a0), (1, .int k1), (2, .int k2), (3, .int k3), (4, .int k4)] := hl
  refine W_q (fun QQ hQQ => ?_)
  rw [f_X10_lines] at h
  refine lv_iload_n hx hb dX10_lines_0 rfl (lv_at hl 1 rfl) ?_
  refine lv_iconst (v := 0) hx hb dX10_lines_1 (by decide) ?_
  refine lv_bipush (v := 99) hx hb dX10_lines_2 (by decide) ?_
  obtain ⟨o4, eo4⟩ : ∃ o, o = f_X10_within k1 (0 : Int32) (99 : Int32) := ⟨_, rfl⟩
  have h := nm_of h o4 eo4
  refine cl_i (wc := []) (wr := ((a0, .inr (7, [.ref a5, g9, g10, g11, g12, g13, g14, g15, .int x_x.1, .int x_x.2])) :: bX6 a5 up kp p_p [])) (va_runS (As := [.int k1, .int 0, .int 99]) (rest := []) ⟨hx, hb, hml, hown, hts⟩ (kfX10_within l dC dI k1 (0 : Int32) (99 : Int32) s.heap.size o4 eo4.symm) (va_cwS 3 hts gfX10_lines_0 rfl rfl rfl (by decide +kernel) ⟨(Nat.le_of_ble_eq_true rfl), (Nat.le_of_ble_eq_true rfl)⟩) (PS (hP.sub (ws' := []) [] rfl) (hK.sub (tys' := ([])) [] rfl) (hD.sub (ws' := []) [] (by decide) rfl) hN) rfl rfl hl.1 rfl (lv_room (Nat.le_of_ble_eq_true rfl)) dX10_lines_4 ⟨(Nat.le_of_ble_eq_true rfl), (Nat.le_of_ble_eq_true rfl)⟩) hP hD hK hS hA [] [0, 1, 2, 3, 4, 5, 6, 7, 8, 9, 10] rfl rfl (by decide) (by decide) (fun r4 _ H locs hw hP hD _ hS => ?_)
  obtain ⟨hw, br4⟩ := hw
  obtain rfl := hw.symm
  have hP : va_P (dC, dI) vwCl ((a0, .inr (7, [.ref a5, g9, g10, g11, g12, g13, g14, g15, .int x_x.1, .int x_x.2])) :: bX6 a5 up kp p_p []) H := hP
  have hD : va_D A ((a0, .inr (7, [.ref a5, g9, g10, g11, g12, g13, g14, g15, .int x_x.1, .int x_x.2])) :: bX6 a5 up kp p_p []) := hD
  have J35 : ∀ (v35_t0 : Int32) (H : Heap) (locs : List Loc) (ls : Array Slot), f_X10_lines_J35 k1 k2 k3 k4 x_x p_p v35_t0 = some out → 0 ≤ v35_t0.toInt ∧ v35_t0.toInt ≤ 1 → va_P (dC, dI) vwCl ((a0, .inr (7, [.ref a5, g9, g10, g11, g12, g13, g14, g15, .int x_x.1, .int x_x.2])) :: bX6 a5 up kp p_p []) H → va_D A ((a0, .inr (7, [.ref a5, g9, g10, g11, g12, g13, g14, g15, .int x_x.1, .int x_x.2])) :: bX6 a5 up kp p_p []) → va_S A s.heap H locs → lv_has ls 6 [(0, .ref a0), (1, .int k1), (2, .int k2), (3, .int k3), (4, .int k4)] → W p l e (headSpec vfX10_lines { frames := 2, cells := 0, slots := 0, locals := 42 }).room s m ([.ref a0, .int k1, .int k2, .int k3, .int k4]).toArray below meth c H locs 0 0 QQ (F0 m 35 ls [.int v35_t0]) := by
    intro v35_t0 H locs ls h zb_v35_t0 hP hD hS hl
    rw [f_X10_lines_J35] at h
    refine lv_istore (lv' := [(5, .int v35_t0), (0, .ref a0), (1, .int k1), (2, .int k2), (3, .int k3), (4, .int k4)]) hx hb dX10_lines_35 hl (by decide) rfl (fun ls hl => ?_)
    refine lv_aload_n hx hb dX10_lines_37 rfl (lv_at hl 1 rfl) ?_
    refine lv_aload_n hx hb dX10_lines_38 rfl (lv_at hl 1 rfl) ?_
    refine lv_iload hx hb dX10_lines_39 (lv_at hl 0 rfl) ?_
    obtain ⟨o41, eo41⟩ : ∃ o, o = f_X10_numberTrouble v35_t0 p_p := ⟨_, rfl⟩
    have h := nm_of h o41 eo41
    refine cl_i (wc := ((a0, .inr (7, [.ref a5, g9, g10, g11, g12, g13, g14, g15, .int x_x.1, .int x_x.2])) :: bX6 a5 up kp p_p [])) (wr := []) (va_runV (As := [.int v35_t0]) (rest := [.ref a0]) ⟨hx, hb, hml, hown, hts⟩ (kfX10_numberTrouble l dC dI a0 v35_t0 a5 up kp (g9) (g10) (g11) (g12) (g13) (g14) (g15) (.int x_x.1) (.int x_x.2) p_p H.size o41 eo41.symm) (cwV 1 hts gfX10_lines_1 rfl rfl rfl (by decide +kernel) ⟨(Nat.le_of_ble_eq_true rfl), (Nat.le_of_ble_eq_true rfl)⟩) (PV (hP.sub (ws' := ((a0, .inr (7, [.ref a5, g9, g10, g11, g12, g13, g14, g15, .int x_x.1, .int x_x.2])) :: bX6 a5 up kp p_p [])) [0, 1, 2, 3, 4, 5, 6, 7, 8, 9, 10] rfl) (hK.sub (tys' := (tX6 kp ([]))) [0, 1, 2, 3, 4, 5, 6, 7, 8] rfl) (hD.sub (ws' := ((a0, .inr (7, [.ref a5, g9, g10, g11, g12, g13, g14, g15, .int x_x.1, .int x_x.2])) :: bX6 a5 up kp p_p [])) [0, 1, 2, 3, 4, 5, 6, 7, 8, 9, 10] (by decide) rfl) hN 0 rfl rfl) rfl rfl hl.1 rfl (lv_room (Nat.le_of_ble_eq_true rfl)) dX10_lines_41 ⟨(Nat.le_of_ble_eq_true rfl), (Nat.le_of_ble_eq_true rfl)⟩) hP hD hK hS hA [0, 1, 2, 3, 4, 5, 6, 7, 8, 9, 10] [] rfl rfl (by decide) (by decide) (fun r41 _ H locs hw hP hD _ hS => ?_)
    obtain rfl := hw.symm
    have hP : va_P (dC, dI) vwCl ((a0, .inr (7, [.ref a5, g9, g10, g11, g12, g13, g14, g15, .int x_x.1, .int x_x.2])) :: bX6 a5 up kp p_p []) H := hP
    have hD : va_D A ((a0, .inr (7, [.ref a5, g9, g10, g11, g12, g13, g14, g15, .int x_x.1, .int x_x.2])) :: bX6 a5 up kp p_p []) := hD
    obtain ⟨o44, eo44⟩ : ∃ o, o = f_X10_refused o41 x_x := ⟨_, rfl⟩
    have h := nm_of h o44 eo44
    refine cl_i (wc := ([(a0, .inr (7, [.ref a5, g9, g10, g11, g12, g13, g14, g15, .int x_x.1, .int x_x.2]))])) (wr := (bX6 a5 up kp p_p [])) (va_runV (As := [.int o41]) (rest := []) ⟨hx, hb, hml, hown, hts⟩ (kfX10_refused l dC dI a0 o41 x_x (.ref a5) (g9) (g10) (g11) (g12) (g13) (g14) (g15) H.size o44 eo44.symm) (cwV 1 hts gfX10_lines_2 rfl rfl rfl (by decide +kernel) ⟨(Nat.le_of_ble_eq_true rfl), (Nat.le_of_ble_eq_true rfl)⟩) (PV (hP.sub (ws' := ([(a0, .inr (7, [.ref a5, g9, g10, g11, g12, g13, g14, g15, .int x_x.1, .int x_x.2]))])) [0] rfl) (hK.sub (tys' := ([])) [] rfl) (hD.sub (ws' := ([(a0, .inr (7, [.ref a5, g9, g10, g11, g12, g13, g14, g15, .int x_x.1, .int x_x.2]))])) [0] (by decide) rfl) hN 0 rfl rfl) rfl rfl hl.1 rfl (lv_room (Nat.le_of_ble_eq_true rfl)) dX10_lines_44 ⟨(Nat.le_of_ble_eq_true rfl), (Nat.le_of_ble_eq_true rfl)⟩) hP hD hK hS hA [0] [1, 2, 3, 4, 5, 6, 7, 8, 9, 10] rfl rfl (by decide) (by decide) (fun r44 _ H locs hw hP hD _ hS => ?_)
    obtain ⟨hw, br44⟩ := hw
    obtain rfl := hw
    have hP : va_P (dC, dI) vwCl (bX6 a5 up kp p_p ([(a0, .inr (7, [.ref a5, g9, g10, g11, g12, g13, g14, g15, .int o44.2.1, .int o44.2.2]))])) H := hP
    have hD : va_D A (bX6 a5 up kp p_p ([(a0, .inr (7, [.ref a5, g9, g10, g11, g12, g13, g14, g15, .int o44.2.1, .int o44.2.2]))])) := hD
    refine lv_if_eq (tgt := 53) hx hb dX10_lines_47 (by decide) (fun c47 => ?_) (fun c47 => ?_)
    · have h := (if_pos c47).symm.trans h
      refine lv_iload hx hb dX10_lines_53 (lv_at hl 5 rfl) ?_
      refine lv_if_eq (tgt := 67) hx hb dX10_lines_55 (by decide) (fun c55 => ?_) (fun c55 => ?_)
      · have h := (if_pos c55).symm.trans h
        refine lv_iload_n hx hb dX10_lines_67 rfl (lv_at hl 2 rfl) ?_
        refine lv_iload_n hx hb dX10_lines_68 rfl (lv_at hl 3 rfl) ?_
        refine lv_iload_n hx hb dX10_lines_69 rfl (lv_at hl 4 rfl) ?_
        obtain ⟨o70, eo70, h⟩ := bd_of h
        refine cl_i (wc := []) (wr := (bX6 a5 up kp p_p ([(a0, .inr (7, [.ref a5, g9, g10, g11, g12, g13, g14, g15, .int o44.2.1, .int o44.2.2]))]))) (va_runS (As := [.int k1, .int k2, .int k3]) (rest := []) ⟨hx, hb, hml, hown, hts⟩ (kfX9_gain l dC dI k1 k2 k3 H.size o70 eo70) (va_cwS 3 hts gfX10_lines_3 rfl rfl rfl (by decide +kernel) ⟨(Nat.le_of_ble_eq_true rfl), (Nat.le_of_ble_eq_true rfl)⟩) (PS (hP.sub (ws' := []) [] rfl) (hK.sub (tys' := ([])) [] rfl) (hD.sub (ws' := []) [] (by decide) rfl) hN) rfl rfl hl.1 rfl (lv_room (Nat.le_of_ble_eq_true rfl)) dX10_lines_70 ⟨(Nat.le_of_ble_eq_true rfl), (Nat.le_of_ble_eq_true rfl)⟩) hP hD hK hS hA [] [0, 1, 2, 3, 4, 5, 6, 7, 8, 9, 10] rfl rfl (by decide) (by decide) (fun r70 _ H locs hw hP hD _ hS => ?_)
        obtain rfl := hw.symm
        have hP : va_P (dC, dI) vwCl (bX6 a5 up kp p_p ([(a0, .inr (7, [.ref a5, g9, g10, g11, g12, g13, g14, g15, .int o44.2.1, .int o44.2.2]))])) H := hP
        have hD : va_D A (bX6 a5 up kp p_p ([(a0, .inr (7, [.ref a5, g9, g10, g11, g12, g13, g14, g15, .int o44.2.1, .int o44.2.2]))])) := hD
        obtain rfl := Option.some.inj h
        have hP9 := hP.sub (ws' := ((a0, .inr (7, [.ref a5, g9, g10, g11, g12, g13, g14, g15, .int o44.2.1, .int o44.2.2])) :: bX6 a5 up kp p_p [])) [10, 0, 1, 2, 3, 4, 5, 6, 7, 8, 9] rfl
        have hD9 := hD.sub (ws' := ((a0, .inr (7, [.ref a5, g9, g10, g11, g12, g13, g14, g15, .int o44.2.1, .int o44.2.2])) :: bX6 a5 up kp p_p [])) [10, 0, 1, 2, 3, 4, 5, 6, 7, 8, 9] (by decide) rfl
        have hK9 := hK.sub (tys' := []) [] rfl
        rw [hQQ]
        exact W.iret (v := o70) hx hb hr (fun t ht hW => ⟨⟨o70, (), rfl, rfl, by rw [ht]; exact hP9, va_K.moved hW.alike hK9, hD9⟩, hS.F ht⟩) hS.2.2 dX10_lines_73
      · have h := (if_neg c55).symm.trans h
        refine lv_iload_n hx hb dX10_lines_58 rfl (lv_at hl 2 rfl) ?_
        refine lv_iload_n hx hb dX10_lines_59 rfl (lv_at hl 4 rfl) ?_
        refine lv_iload_n hx hb dX10_lines_60 rfl (lv_at hl 3 rfl) ?_
        obtain ⟨o61, eo61, h⟩ := bd_of h
        refine cl_i (wc := []) (wr := (bX6 a5 up kp p_p ([(a0, .inr (7, [.ref a5, g9, g10, g11, g12, g13, g14, g15, .int o44.2.1, .int o44.2.2]))]))) (va_runS (As := [.int k1, .int k3, .int k2]) (rest := []) ⟨hx, hb, hml, hown, hts⟩ (kfX9_gain l dC dI k1 k3 k2 H.size o61 eo61) (va_cwS 3 hts gfX10_lines_3 rfl rfl rfl (by decide +kernel) ⟨(Nat.le_of_ble_eq_true rfl), (Nat.le_of_ble_eq_true rfl)⟩) (PS (hP.sub (ws' := []) [] rfl) (hK.sub (tys' := ([])) [] rfl) (hD.sub (ws' := []) [] (by decide) rfl) hN) rfl rfl hl.1 rfl (lv_room (Nat.le_of_ble_eq_true rfl)) dX10_lines_61 ⟨(Nat.le_of_ble_eq_true rfl), (Nat.le_of_ble_eq_true rfl)⟩) hP hD hK hS hA [] [0, 1, 2, 3, 4, 5, 6, 7, 8, 9, 10] rfl rfl (by decide) (by decide) (fun r61 _ H locs hw hP hD _ hS => ?_)
        obtain rfl := hw.symm
        have hP : va_P (dC, dI) vwCl (bX6 a5 up kp p_p ([(a0, .inr (7, [.ref a5, g9, g10, g11, g12, g13, g14, g15, .int o44.2.1, .int o44.2.2]))])) H := hP
        have hD : va_D A (bX6 a5 up kp p_p ([(a0, .inr (7, [.ref a5, g9, g10, g11, g12, g13, g14, g15, .int o44.2.1, .int o44.2.2]))])) := hD
        refine lv_goto (tgt := 73) hx hb dX10_lines_64 (by decide) ?_
        obtain rfl := Option.some.inj h
        have hP9 := hP.sub (ws' := ((a0, .inr (7, [.ref a5, g9, g10, g11, g12, g13, g14, g15, .int o44.2.1, .int o44.2.2])) :: bX6 a5 up kp p_p [])) [10, 0, 1, 2, 3, 4, 5, 6, 7, 8, 9] rfl
        have hD9 := hD.sub (ws' := ((a0, .inr (7, [.ref a5, g9, g10, g11, g12, g13, g14, g15, .int o44.2.1, .int o44.2.2])) :: bX6 a5 up kp p_p [])) [10, 0, 1, 2, 3, 4, 5, 6, 7, 8, 9] (by decide) rfl
        have hK9 := hK.sub (tys' := []) [] rfl
        rw [hQQ]
        exact W.iret (v := o61) hx hb hr (fun t ht hW => ⟨⟨o61, (), rfl, rfl, by rw [ht]; exact hP9, va_K.moved hW.alike hK9, hD9⟩, hS.F ht⟩) hS.2.2 dX10_lines_73
    · have h := (if_neg c47).symm.trans h
      refine lv_bipush (v := (-100)) hx hb dX10_lines_50 (by decide) ?_
      obtain rfl := Option.some.inj h
      have hP9 := hP.sub (ws' := ((a0, .inr (7, [.ref a5, g9, g10, g11, g12, g13, g14, g15, .int o44.2.1, .int o44.2.2])) :: bX6 a5 up kp p_p [])) [10, 0, 1, 2, 3, 4, 5, 6, 7, 8, 9] rfl
      have hD9 := hD.sub (ws' := ((a0, .inr (7, [.ref a5, g9, g10, g11, g12, g13, g14, g15, .int o44.2.1, .int o44.2.2])) :: bX6 a5 up kp p_p [])) [10, 0, 1, 2, 3, 4, 5, 6, 7, 8, 9] (by decide) rfl
      have hK9 := hK.sub (tys' := []) [] rfl
      rw [hQQ]
      exact W.iret (v := (-100 : Int32)) hx hb hr (fun t ht hW => ⟨⟨(-100 : Int32), (), rfl, rfl, by rw [ht]; exact hP9, va_K.moved hW.alike hK9, hD9⟩, hS.F ht⟩) hS.2.2 dX10_lines_52
  have J34 : ∀ (H : Heap) (locs : List Loc) (ls : Array Slot), f_X10_lines_J34 k1 k2 k3 k4 x_x p_p = some out → va_P (dC, dI) vwCl ((a0, .inr (7, [.ref a5, g9, g10, g11, g12, g13, g14, g15, .int x_x.1, .int x_x.2])) :: bX6 a5 up kp p_p []) H → va_D A ((a0, .inr (7, [.ref a5, g9, g10, g11, g12, g13, g14, g15, .int x_x.1, .int x_x.2])) :: bX6 a5 up kp p_p []) → va_S A s.heap H locs → lv_has ls 6 [(0, .ref a0), (1, .int k1), (2, .int k2), (3, .int k3), (4, .int k4)] → W p l e (headSpec vfX10_lines { frames := 2, cells := 0, slots := 0, locals := 42 }).room s m ([.ref a0, .int k1, .int k2, .int k3, .int k4]).toArray below meth c H locs 0 0 QQ (F0 m 34 ls []) := by
    intro  H locs ls h  hP hD hS hl
    rw [f_X10_lines_J34] at h
    refine lv_iconst (v := 0) hx hb dX10_lines_34 (by decide) ?_
    exact J35 (0 : Int32) H _ ls h (by decide) hP hD hS (lv_sub hl [0, 1, 2, 3, 4] rfl)
  refine lv_if_eq (tgt := 34) hx hb dX10_lines_7 (by decide) (fun c7 => ?_) (fun c7 => ?_)
  · have h := (if_pos c7).symm.trans h
    exact J34  H _ ls h  hP hD hS (lv_sub hl [0, 1, 2, 3, 4] rfl)
  · have h := (if_neg c7).symm.trans h
    refine lv_iload_n hx hb dX10_lines_10 rfl (lv_at hl 2 rfl) ?_
    refine lv_iconst (v := 0) hx hb dX10_lines_11 (by decide) ?_
    refine lv_bipush (v := 6) hx hb dX10_lines_12 (by decide) ?_
    obtain ⟨o14, eo14⟩ : ∃ o, o = f_X10_within k2 (0 : Int32) (6 : Int32) := ⟨_, rfl⟩
    have h := nm_of h o14 eo14
    refine cl_i (wc := []) (wr := ((a0, .inr (7, [.ref a5, g9, g10, g11, g12, g13, g14, g15, .int x_x.1, .int x_x.2])) :: bX6 a5 up kp p_p [])) (va_runS (As := [.int k2, .int 0, .int 6]) (rest := []) ⟨hx, hb, hml, hown, hts⟩ (kfX10_within l dC dI k2 (0 : Int32) (6 : Int32) H.size o14 eo14.symm) (va_cwS 3 hts gfX10_lines_0 rfl rfl rfl (by decide +kernel) ⟨(Nat.le_of_ble_eq_true rfl), (Nat.le_of_ble_eq_true rfl)⟩) (PS (hP.sub (ws' := []) [] rfl) (hK.sub (tys' := ([])) [] rfl) (hD.sub (ws' := []) [] (by decide) rfl) hN) rfl rfl hl.1 rfl (lv_room (Nat.le_of_ble_eq_true rfl)) dX10_lines_14 ⟨(Nat.le_of_ble_eq_true rfl), (Nat.le_of_ble_eq_true rfl)⟩) hP hD hK hS hA [] [0, 1, 2, 3, 4, 5, 6, 7, 8, 9, 10] rfl rfl (by decide) (by decide) (fun r14 _ H locs hw hP hD _ hS => ?_)
    obtain ⟨hw, br14⟩ := hw
    obtain rfl := hw.symm
    have hP : va_P (dC, dI) vwCl ((a0, .inr (7, [.ref a5, g9, g10, g11, g12, g13, g14, g15, .int x_x.1, .int x_x.2])) :: bX6 a5 up kp p_p []) H := hP
    have hD : va_D A ((a0, .inr (7, [.ref a5, g9, g10, g11, g12, g13, g14, g15, .int x_x.1, .int x_x.2])) :: bX6 a5 up kp p_p []) := hD
    refine lv_if_eq (tgt := 34) hx hb dX10_lines_17 (by decide) (fun c17 => ?_) (fun c17 => ?_)
    · have h := (if_pos c17).symm.trans h
      exact J34  H _ ls h  hP hD hS (lv_sub hl [0, 1, 2, 3, 4] rfl)
    · have h := (if_neg c17).symm.trans h
      refine lv_iload_n hx hb dX10_lines_20 rfl (lv_at hl 3 rfl) ?_
      refine lv_iconst (v := 0) hx hb dX10_lines_21 (by decide) ?_
      refine lv_bipush (v := 6) hx hb dX10_lines_22 (by decide) ?_
      obtain ⟨o24, eo24⟩ : ∃ o, o = f_X10_within k3 (0 : Int32) (6 : Int32) := ⟨_, rfl⟩
      have h := nm_of h o24 eo24
      refine cl_i (wc := []) (wr := ((a0, .inr (7, [.ref a5, g9, g10, g11, g12, g13, g14, g15, .int x_x.1, .int x_x.2])) :: bX6 a5 up kp p_p [])) (va_runS (As := [.int k3, .int 0, .int 6]) (rest := []) ⟨hx, hb, hml, hown, hts⟩ (kfX10_within l dC dI k3 (0 : Int32) (6 : Int32) H.size o24 eo24.symm) (va_cwS 3 hts gfX10_lines_0 rfl rfl rfl (by decide +kernel) ⟨(Nat.le_of_ble_eq_true rfl), (Nat.le_of_ble_eq_true rfl)⟩) (PS (hP.sub (ws' := []) [] rfl) (hK.sub (tys' := ([])) [] rfl) (hD.sub (ws' := []) [] (by decide) rfl) hN) rfl rfl hl.1 rfl (lv_room (Nat.le_of_ble_eq_true rfl)) dX10_lines_24 ⟨(Nat.le_of_ble_eq_true rfl), (Nat.le_of_ble_eq_true rfl)⟩) hP hD hK hS hA [] [0, 1, 2, 3, 4, 5, 6, 7, 8, 9, 10] rfl rfl (by decide) (by decide) (fun r24 _ H locs hw hP hD _ hS => ?_)
      obtain ⟨hw, br24⟩ := hw
      obtain rfl := hw.symm
      have hP : va_P (dC, dI) vwCl ((a0, .inr (7, [.ref a5, g9, g10, g11, g12, g13, g14, g15, .int x_x.1, .int x_x.2])) :: bX6 a5 up kp p_p []) H := hP
      have hD : va_D A ((a0, .inr (7, [.ref a5, g9, g10, g11, g12, g13, g14, g15, .int x_x.1, .int x_x.2])) :: bX6 a5 up kp p_p []) := hD
      refine lv_if_eq (tgt := 34) hx hb dX10_lines_27 (by decide) (fun c27 => ?_) (fun c27 => ?_)
      · have h := (if_pos c27).symm.trans h
        exact J34  H _ ls h  hP hD hS (lv_sub hl [0, 1, 2, 3, 4] rfl)
      · have h := (if_neg c27).symm.trans h
        refine lv_iconst (v := 1) hx hb dX10_lines_30 (by decide) ?_
        refine lv_goto (tgt := 35) hx hb dX10_lines_31 (by decide) ?_
        exact J35 (1 : Int32) H _ ls h (by decide) hP hD hS (lv_sub hl [0, 1, 2, 3, 4] rfl)
theorem dX9_isBestAlone_0 : decode cX9_isBestAlone 0 = .ok (.iconst 0, 1) := by decide +kernel
theorem dX9_isBestAlone_1 : decode cX9_isBestAlone 1 = .ok (.istore_n 3, 1) := by decide +kernel
theorem dX9_isBestAlone_10 : decode cX9_isBestAlone 10 = .ok (.iload_n 2, 1) := by decide +kernel
theorem dX9_isBestAlone_11 : decode cX9_isBestAlone 11 = .ok (.invokestatic 15, 3) := by decide +kernel
theorem dX9_isBestAlone_14 : decode cX9_isBestAlone 14 = .ok (.iload_n 0, 1) := by decide +kernel
theorem dX9_isBestAlone_15 : decode cX9_isBestAlone 15 = .ok (.iload_n 1, 1) := by decide +kernel
theorem dX9_isBestAlone_16 : decode cX9_isBestAlone 16 = .ok (.iload_n 2, 1) := by decide +kernel
theorem dX9_isBestAlone_17 : decode cX9_isBestAlone 17 = .ok (.invokestatic 15, 3) := by decide +kernel
theorem dX9_isBestAlone_2 : decode cX9_isBestAlone 2 = .ok (.iload_n 3, 1) := by decide +kernel
theorem dX9_isBestAlone_20 : decode cX9_isBestAlone 20 = .ok (.if_icmp .le 5, 3) := by decide +kernel
theorem dX9_isBestAlone_23 : decode cX9_isBestAlone 23 = .ok (.iconst 0, 1) := by decide +kernel
theorem dX9_isBestAlone_24 : decode cX9_isBestAlone 24 = .ok (.ireturn, 1) := by decide +kernel
theorem dX9_isBestAlone_25 : decode cX9_isBestAlone 25 = .ok (.iinc 3 1, 3) := by decide +kernel
theorem dX9_isBestAlone_28 : decode cX9_isBestAlone 28 = .ok (.goto (-26), 3) := by decide +kernel
theorem dX9_isBestAlone_3 : decode cX9_isBestAlone 3 = .ok (.bipush 6, 2) := by decide +kernel
theorem dX9_isBestAlone_31 : decode cX9_isBestAlone 31 = .ok (.iconst 1, 1) := by decide +kernel
theorem dX9_isBestAlone_32 : decode cX9_isBestAlone 32 = .ok (.ireturn, 1) := by decide +kernel
theorem dX9_isBestAlone_5 : decode cX9_isBestAlone 5 = .ok (.if_icmp .gt 26, 3) := by decide +kernel
theorem dX9_isBestAlone_8 : decode cX9_isBestAlone 8 = .ok (.iload_n 0, 1) := by decide +kernel
theorem dX9_isBestAlone_9 : decode cX9_isBestAlone 9 = .ok (.iload_n 3, 1) := by decide +kernel
def vfX9_isBestAlone : List Cond := List.cons (.code yX9_isBestAlone cX9_isBestAlone 4 (some .boolean)) (apW [.methodLink RX9 15 yX9_gain, .static yX9_gain, .initialized RX9] (vfX9_gain))
theorem qfX9_isBestAlone : Good vfX9_isBestAlone := gd_cons (by decide +kernel) (gd_app (gd_dec (by decide +kernel) : Good [.methodLink RX9 15 yX9_gain, .static yX9_gain, .initialized RX9]) qfX9_gain)
theorem gfX9_isBestAlone_0 : GoodIn vfX9_isBestAlone (va_wsS RX9 15 yX9_gain vfX9_gain) := goodIn_app (goodIn_r [.methodLink RX9 15 yX9_gain, .static yX9_gain, .initialized RX9] [1, 2, 3] rfl (by decide +kernel)) (goodIn_m (fun _ h => (List.mem_cons_of_mem _ (List.mem_append_right _ h))) qfX9_gain)
set_option maxHeartbeats 2000000 in
set_option maxRecDepth 100000 in
theorem kfX9_isBestAlone (l : Launch) (dC : Nat → ClassId) (dI : Nat → Nat → Nat) (k0 : Int32) (k1 : Int32) (k2 : Int32) (sz : Nat) (out : Int32) (h : f_X9_isBestAlone k0 k1 k2 = some out) : Met l yX9_isBestAlone vfX9_isBestAlone ({ frames := 1, cells := 0, slots := 0, locals := 23 }) (PC (dC, dI) [.int k0, .int k1, .int k2] sz [] ([])) (va_Qi (S := Unit) (fun (r : Int32) _ => r = out ∧ (0 ≤ r.toInt ∧ r.toInt ≤ 1)) (fun _ t => BC (dC, dI) (va_A [] sz) [] [] t) (va_A [] sz)) 0 0 (va_A [] sz) := by
  refine Met.ofW (cc := cX9_isBestAlone) (maxL := 4) (ret := (some .boolean)) (by decide) rfl ?_
  intro p e s m args below meth c s₁ B0 hml hv
  obtain ⟨rfl, hsz, hP, hK, hD0, hN⟩ := hv
  have hx := B0.exec
  have hb := B0.bytes
  have hr := B0.returns
  have hts := atoms_spec (ws := vfX9_isBestAlone) B0.pre
  have hown : s.vm.findClass RX9 = some m.cls := findClass_of_methodNamed B0.named
  have hlocks := B0.notSynchronized
  subst hsz
  have hD := hD0.self (sz := s.heap.size)
  generalize hAe : va_A [] s.heap.size = A at hD ⊢
  have hA : ∀ q : Nat, s.heap.size ≤ q → A q := fun q h => by rw [← hAe]; exact Or.inr h
  have hS : va_S A s.heap s.heap [] := va_S.rf
  have hP : va_P (dC, dI) vwCl [] s.heap := hP
  have hl := lv_entry ([.int k0, .int k1, .int k2]) (n := 4) (Nat.le_of_ble_eq_true rfl)
  rw [lg_entry_eq]
  generalize (lg_sl ([.int k0, .int k1, .int k2]) ++ List.replicate (4 - (lg_sl ([.int k0, .int k1, .int k2])).length) Slot.unset).toArray = ls at hl ⊢
  have hl : lv_has ls 4 [(0, .int k0), (1, .int k1), (2, .int k2)] := hl
  refine W_q (fun QQ hQQ => ?_)
  rw [f_X9_isBestAlone] at h
  refine lv_iconst (v := 0) hx hb dX9_isBestAlone_0 (by decide) ?_
  refine lv_istore_n (lv' := [(3, .int 0), (0, .int k0), (1, .int k1), (2, .int k2)]) hx hb dX9_isBestAlone_1 rfl hl (by decide) rfl (fun ls hl => ?_)
  have L2 : ∀ (n2 : Nat) (v2_l3 : Int32) (H : Heap) (locs : List Loc) (ls : Array Slot), f_X9_isBestAlone_L2 k0 k1 k2 n2 v2_l3 = some out → va_P (dC, dI) vwCl [] H → va_D A [] → va_S A s.heap H locs → lv_has ls 4 [(3, .int v2_l3), (0, .int k0), (1, .int k1), (2, .int k2)] → W p l e (headSpec vfX9_isBestAlone { frames := 1, cells := 0, slots := 0, locals := 23 }).room s m ([.int k0, .int k1, .int k2]).toArray below meth c H locs 0 0 QQ (F0 m 2 ls []) := by
    intro n2
    induction n2 with
    | zero =>
      intro v2_l3 H locs ls h  _ _ _ _
      rw [f_X9_isBestAlone_L2] at h
      cases h
    | succ n2 ih2 =>
      intro v2_l3 H locs ls h  hP hD hS hl
      rw [f_X9_isBestAlone_L2] at h
      refine lv_iload_n hx hb dX9_isBestAlone_2 rfl (lv_at hl 0 rfl) ?_
      refine lv_bipush (v := 6) hx hb dX9_isBestAlone_3 (by decide) ?_
      refine lv_icmp_gt (tgt := 31) hx hb dX9_isBestAlone_5 (by decide) (fun c5 => ?_) (fun c5 => ?_)
      · have h := (if_pos c5).symm.trans h
        refine lv_iconst (v := 1) hx hb dX9_isBestAlone_31 (by decide) ?_
        obtain rfl := Option.some.inj h
        have hP9 := hP.sub (ws' := []) [] rfl
        have hD9 := hD.sub (ws' := []) [] (by decide) rfl
        have hK9 := hK.sub (tys' := []) [] rfl
        rw [hQQ]
        exact W.zret (v := (1 : Int32)) hx hb hr rfl (fun t ht hW => ⟨⟨(1 : Int32), (), rfl, ⟨rfl, (by decide)⟩, by rw [ht]; exact hP9, va_K.moved hW.alike hK9, hD9⟩, hS.F ht⟩) hS.2.2 dX9_isBestAlone_32
      · have h := (if_neg c5).symm.trans h
        refine lv_iload_n hx hb dX9_isBestAlone_8 rfl (lv_at hl 1 rfl) ?_
        refine lv_iload_n hx hb dX9_isBestAlone_9 rfl (lv_at hl 0 rfl) ?_
        refine lv_iload_n hx hb dX9_isBestAlone_10 rfl (lv_at hl 3 rfl) ?_
        obtain ⟨o11, eo11, h⟩ := bd_of h
        refine cl_i (wc := []) (wr := []) (va_runS (As := [.int k0, .int v2_l3, .int k2]) (rest := []) ⟨hx, hb, hml, hown, hts⟩ (kfX9_gain l dC dI k0 v2_l3 k2 H.size o11 eo11) (va_cwS 3 hts gfX9_isBestAlone_0 rfl rfl rfl (by decide +kernel) ⟨(Nat.le_of_ble_eq_true rfl), (Nat.le_of_ble_eq_true rfl)⟩) (PS (hP.sub (ws' := []) [] rfl) (hK.sub (tys' := ([])) [] rfl) (hD.sub (ws' := []) [] (by decide) rfl) hN) rfl rfl hl.1 rfl (lv_room (Nat.le_of_ble_eq_true rfl)) dX9_isBestAlone_11 ⟨(Nat.le_of_ble_eq_true rfl), (Nat.le_of_ble_eq_true rfl)⟩) hP hD hK hS hA [] [] rfl rfl (by decide) (by decide) (fun r11 _ H locs hw hP hD _ hS => ?_)
        obtain rfl := hw.symm
        have hP : va_P (dC, dI) vwCl [] H := hP
        have hD : va_D A [] := hD
        refine lv_iload_n hx hb dX9_isBestAlone_14 rfl (lv_at hl 1 rfl) ?_
        refine lv_iload_n hx hb dX9_isBestAlone_15 rfl (lv_at hl 2 rfl) ?_
        refine lv_iload_n hx hb dX9_isBestAlone_16 rfl (lv_at hl 3 rfl) ?_
        obtain ⟨o17, eo17, h⟩ := bd_of h
        refine cl_i (wc := []) (wr := []) (va_runS (As := [.int k0, .int k1, .int k2]) (rest := [.int o11]) ⟨hx, hb, hml, hown, hts⟩ (kfX9_gain l dC dI k0 k1 k2 H.size o17 eo17) (va_cwS 3 hts gfX9_isBestAlone_0 rfl rfl rfl (by decide +kernel) ⟨(Nat.le_of_ble_eq_true rfl), (Nat.le_of_ble_eq_true rfl)⟩) (PS (hP.sub (ws' := []) [] rfl) (hK.sub (tys' := ([])) [] rfl) (hD.sub (ws' := []) [] (by decide) rfl) hN) rfl rfl hl.1 rfl (lv_room (Nat.le_of_ble_eq_true rfl)) dX9_isBestAlone_17 ⟨(Nat.le_of_ble_eq_true rfl), (Nat.le_of_ble_eq_true rfl)⟩) hP hD hK hS hA [] [] rfl rfl (by decide) (by decide) (fun r17 _ H locs hw hP hD _ hS => ?_)
        obtain rfl := hw.symm
        have hP : va_P (dC, dI) vwCl [] H := hP
        have hD : va_D A [] := hD
        refine lv_icmp_le (tgt := 25) hx hb dX9_isBestAlone_20 (by decide) (fun c20 => ?_) (fun c20 => ?_)
        · have h := (if_pos c20).symm.trans h
          refine lv_iinc (v := (v2_l3 + (1 : Int32))) (lv' := [(3, .int (v2_l3 + (1 : Int32))), (0, .int k0), (1, .int k1), (2, .int k2)]) hx hb dX9_isBestAlone_25 hl (k := 0) rfl rfl (by decide) rfl (fun ls hl => ?_)
          refine lv_goto (tgt := 2) hx hb dX9_isBestAlone_28 (by decide) ?_
          exact ih2 (v2_l3 + (1 : Int32)) H _ ls h  hP hD hS (lv_sub hl [0, 1, 2, 3] rfl)
        · have h := (if_neg c20).symm.trans h
          refine lv_iconst (v := 0) hx hb dX9_isBestAlone_23 (by decide) ?_
          obtain rfl := Option.some.inj h
          have hP9 := hP.sub (ws' := []) [] rfl
          have hD9 := hD.sub (ws' := []) [] (by decide) rfl
          have hK9 := hK.sub (tys' := []) [] rfl
          rw [hQQ]
          exact W.zret (v := (0 : Int32)) hx hb hr rfl (fun t ht hW => ⟨⟨(0 : Int32), (), rfl, ⟨rfl, (by decide)⟩, by rw [ht]; exact hP9, va_K.moved hW.alike hK9, hD9⟩, hS.F ht⟩) hS.2.2 dX9_isBestAlone_24
  exact L2 FU (0 : Int32) s.heap _ ls h  hP hD hS (lv_sub hl [0, 1, 2, 3] rfl)
theorem dX9_isRest_0 : decode cX9_isRest 0 = .ok (.iload_n 1, 1) := by decide +kernel
theorem dX9_isRest_1 : decode cX9_isRest 1 = .ok (.bipush 10, 2) := by decide +kernel
theorem dX9_isRest_10 : decode cX9_isRest 10 = .ok (.iload_n 3, 1) := by decide +kernel
theorem dX9_isRest_11 : decode cX9_isRest 11 = .ok (.bipush 6, 2) := by decide +kernel
theorem dX9_isRest_13 : decode cX9_isRest 13 = .ok (.if_icmp .gt 25, 3) := by decide +kernel
theorem dX9_isRest_16 : decode cX9_isRest 16 = .ok (.iload_n 0, 1) := by decide +kernel
theorem dX9_isRest_17 : decode cX9_isRest 17 = .ok (.iload_n 2, 1) := by decide +kernel
theorem dX9_isRest_18 : decode cX9_isRest 18 = .ok (.iload_n 3, 1) := by decide +kernel
theorem dX9_isRest_19 : decode cX9_isRest 19 = .ok (.invokestatic 9, 3) := by decide +kernel
theorem dX9_isRest_22 : decode cX9_isRest 22 = .ok (.ifCond .eq 16, 3) := by decide +kernel
theorem dX9_isRest_25 : decode cX9_isRest 25 = .ok (.iload_n 0, 1) := by decide +kernel
theorem dX9_isRest_26 : decode cX9_isRest 26 = .ok (.iload_n 3, 1) := by decide +kernel
theorem dX9_isRest_27 : decode cX9_isRest 27 = .ok (.iload_n 2, 1) := by decide +kernel
theorem dX9_isRest_28 : decode cX9_isRest 28 = .ok (.invokestatic 9, 3) := by decide +kernel
theorem dX9_isRest_3 : decode cX9_isRest 3 = .ok (.idiv, 1) := by decide +kernel
theorem dX9_isRest_31 : decode cX9_isRest 31 = .ok (.ifCond .eq 7, 3) := by decide +kernel
theorem dX9_isRest_34 : decode cX9_isRest 34 = .ok (.iconst 1, 1) := by decide +kernel
theorem dX9_isRest_35 : decode cX9_isRest 35 = .ok (.goto 4, 3) := by decide +kernel
theorem dX9_isRest_38 : decode cX9_isRest 38 = .ok (.iconst 0, 1) := by decide +kernel
theorem dX9_isRest_39 : decode cX9_isRest 39 = .ok (.ireturn, 1) := by decide +kernel
theorem dX9_isRest_4 : decode cX9_isRest 4 = .ok (.istore_n 2, 1) := by decide +kernel
theorem dX9_isRest_5 : decode cX9_isRest 5 = .ok (.iload_n 1, 1) := by decide +kernel
theorem dX9_isRest_6 : decode cX9_isRest 6 = .ok (.bipush 10, 2) := by decide +kernel
theorem dX9_isRest_8 : decode cX9_isRest 8 = .ok (.irem, 1) := by decide +kernel
theorem dX9_isRest_9 : decode cX9_isRest 9 = .ok (.istore_n 3, 1) := by decide +kernel
def vfX9_isRest : List Cond := List.cons (.code yX9_isRest cX9_isRest 4 (some .boolean)) (apW [.methodLink RX9 9 yX9_isBestAlone, .static yX9_isBestAlone, .initialized RX9] (vfX9_isBestAlone))
theorem qfX9_isRest : Good vfX9_isRest := gd_cons (by decide +kernel) (gd_app (gd_dec (by decide +kernel) : Good [.methodLink RX9 9 yX9_isBestAlone, .static yX9_isBestAlone, .initialized RX9]) qfX9_isBestAlone)
theorem gfX9_isRest_0 : GoodIn vfX9_isRest (va_wsS RX9 9 yX9_isBestAlone vfX9_isBestAlone) := goodIn_app (goodIn_r [.methodLink RX9 9 yX9_isBestAlone, .static yX9_isBestAlone, .initialized RX9] [1, 2, 3] rfl (by decide +kernel)) (goodIn_m (fun _ h => (List.mem_cons_of_mem _ (List.mem_append_right _ h))) qfX9_isBestAlone)
set_option maxHeartbeats 2000000 in
set_option maxRecDepth 100000 in
theorem kfX9_isRest (l : Launch) (dC : Nat → ClassId) (dI : Nat → Nat → Nat) (k0 : Int32) (k1 : Int32) (sz : Nat) (out : Int32) (h : f_X9_isRest k0 k1 = some out) : Met l yX9_isRest vfX9_isRest ({ frames := 2, cells := 0, slots := 0, locals := 46 }) (PC (dC, dI) [.int k0, .int k1] sz [] ([])) (va_Qi (S := Unit) (fun (r : Int32) _ => r = out ∧ (0 ≤ r.toInt ∧ r.toInt ≤ 1)) (fun _ t => BC (dC, dI) (va_A [] sz) [] [] t) (va_A [] sz)) 0 0 (va_A [] sz) := by
  refine Met.ofW (cc := cX9_isRest) (maxL := 4) (ret := (some .boolean)) (by decide) rfl ?_
  intro p e s m args below meth c s₁ B0 hml hv
  obtain ⟨rfl, hsz, hP, hK, hD0, hN⟩ := hv
  have hx := B0.exec
  have hb := B0.bytes
  have hr := B0.returns
  have hts := atoms_spec (ws := vfX9_isRest) B0.pre
  have hown : s.vm.findClass RX9 = some m.cls := findClass_of_methodNamed B0.named
  have hlocks := B0.notSynchronized
  subst hsz
  have hD := hD0.self (sz := s.heap.size)
  generalize hAe : va_A [] s.heap.size = A at hD ⊢
  have hA : ∀ q : Nat, s.heap.size ≤ q → A q := fun q h => by rw [← hAe]; exact Or.inr h
  have hS : va_S A s.heap s.heap [] := va_S.rf
  have hP : va_P (dC, dI) vwCl [] s.heap := hP
  have hl := lv_entry ([.int k0, .int k1]) (n := 4) (Nat.le_of_ble_eq_true rfl)
  rw [lg_entry_eq]
  generalize (lg_sl ([.int k0, .int k1]) ++ List.replicate (4 - (lg_sl ([.int k0, .int k1])).length) Slot.unset).toArray = ls at hl ⊢
  have hl : lv_has ls 4 [(0, .int k0), (1, .int k1)] := hl
  refine W_q (fun QQ hQQ => ?_)
  rw [f_X9_isRest] at h
  refine lv_iload_n hx hb dX9_isRest_0 rfl (lv_at hl 1 rfl) ?_
  refine lv_bipush (v := 10) hx hb dX9_isRest_1 (by decide) ?_
  refine lv_idiv hx hb dX9_isRest_3 (by decide) ?_
  refine lv_istore_n (lv' := [(2, .int (k1 / (10 : Int32))), (0, .int k0), (1, .int k1)]) hx hb dX9_isRest_4 rfl hl (by decide) rfl (fun ls hl => ?_)
  refine lv_iload_n hx hb dX9_isRest_5 rfl (lv_at hl 2 rfl) ?_
  refine lv_bipush (v := 10) hx hb dX9_isRest_6 (by decide) ?_
  refine lv_irem hx hb dX9_isRest_8 (by decide) ?_
  refine lv_istore_n (lv' := [(3, .int (k1 - k1 / (10 : Int32) * (10 : Int32))), (2, .int (k1 / (10 : Int32))), (0, .int k0), (1, .int k1)]) hx hb dX9_isRest_9 rfl hl (by decide) rfl (fun ls hl => ?_)
  refine lv_iload_n hx hb dX9_isRest_10 rfl (lv_at hl 0 rfl) ?_
  refine lv_bipush (v := 6) hx hb dX9_isRest_11 (by decide) ?_
  refine lv_icmp_gt (tgt := 38) hx hb dX9_isRest_13 (by decide) (fun c13 => ?_) (fun c13 => ?_)
  · have h := (if_pos c13).symm.trans h
    refine lv_iconst (v := 0) hx hb dX9_isRest_38 (by decide) ?_
    obtain rfl := Option.some.inj h
    have hP9 := hP.sub (ws' := []) [] rfl
    have hD9 := hD.sub (ws' := []) [] (by decide) rfl
    have hK9 := hK.sub (tys' := []) [] rfl
    rw [hQQ]
    exact W.zret (v := (0 : Int32)) hx hb hr rfl (fun t ht hW => ⟨⟨(0 : Int32), (), rfl, ⟨rfl, (by decide)⟩, by rw [ht]; exact hP9, va_K.moved hW.alike hK9, hD9⟩, hS.F ht⟩) hS.2.2 dX9_isRest_39
  · have h := (if_neg c13).symm.trans h
    refine lv_iload_n hx hb dX9_isRest_16 rfl (lv_at hl 2 rfl) ?_
    refine lv_iload_n hx hb dX9_isRest_17 rfl (lv_at hl 1 rfl) ?_
    refine lv_iload_n hx hb dX9_isRest_18 rfl (lv_at hl 0 rfl) ?_
    obtain ⟨o19, eo19, h⟩ := bd_of h
    refine cl_i (wc := []) (wr := []) (va_runS (As := [.int k0, .int (k1 / (10 : Int32)), .int (k1 - k1 / (10 : Int32) * (10 : Int32))]) (rest := []) ⟨hx, hb, hml, hown, hts⟩ (kfX9_isBestAlone l dC dI k0 (k1 / (10 : Int32)) (k1 - k1 / (10 : Int32) * (10 : Int32)) s.heap.size o19 eo19) (va_cwS 3 hts gfX9_isRest_0 rfl rfl rfl (by decide +kernel) ⟨(Nat.le_of_ble_eq_true rfl), (Nat.le_of_ble_eq_true rfl)⟩) (PS (hP.sub (ws' := []) [] rfl) (hK.sub (tys' := ([])) [] rfl) (hD.sub (ws' := []) [] (by decide) rfl) hN) rfl rfl hl.1 rfl (lv_room (Nat.le_of_ble_eq_true rfl)) dX9_isRest_19 ⟨(Nat.le_of_ble_eq_true rfl), (Nat.le_of_ble_eq_true rfl)⟩) hP hD hK hS hA [] [] rfl rfl (by decide) (by decide) (fun r19 _ H locs hw hP hD _ hS => ?_)
    obtain ⟨hw, br19⟩ := hw
    obtain rfl := hw.symm
    have hP : va_P (dC, dI) vwCl [] H := hP
    have hD : va_D A [] := hD
    refine lv_if_eq (tgt := 38) hx hb dX9_isRest_22 (by decide) (fun c22 => ?_) (fun c22 => ?_)
    · have h := (if_pos c22).symm.trans h
      refine lv_iconst (v := 0) hx hb dX9_isRest_38 (by decide) ?_
      obtain rfl := Option.some.inj h
      have hP9 := hP.sub (ws' := []) [] rfl
      have hD9 := hD.sub (ws' := []) [] (by decide) rfl
      have hK9 := hK.sub (tys' := []) [] rfl
      rw [hQQ]
      exact W.zret (v := (0 : Int32)) hx hb hr rfl (fun t ht hW => ⟨⟨(0 : Int32), (), rfl, ⟨rfl, (by decide)⟩, by rw [ht]; exact hP9, va_K.moved hW.alike hK9, hD9⟩, hS.F ht⟩) hS.2.2 dX9_isRest_39
    · have h := (if_neg c22).symm.trans h
      refine lv_iload_n hx hb dX9_isRest_25 rfl (lv_at hl 2 rfl) ?_
      refine lv_iload_n hx hb dX9_isRest_26 rfl (lv_at hl 0 rfl) ?_
      refine lv_iload_n hx hb dX9_isRest_27 rfl (lv_at hl 1 rfl) ?_
      obtain ⟨o28, eo28, h⟩ := bd_of h
      refine cl_i (wc := []) (wr := []) (va_runS (As := [.int k0, .int (k1 - k1 / (10 : Int32) * (10 : Int32)), .int (k1 / (10 : Int32))]) (rest := []) ⟨hx, hb, hml, hown, hts⟩ (kfX9_isBestAlone l dC dI k0 (k1 - k1 / (10 : Int32) * (10 : Int32)) (k1 / (10 : Int32)) H.size o28 eo28) (va_cwS 3 hts gfX9_isRest_0 rfl rfl rfl (by decide +kernel) ⟨(Nat.le_of_ble_eq_true rfl), (Nat.le_of_ble_eq_true rfl)⟩) (PS (hP.sub (ws' := []) [] rfl) (hK.sub (tys' := ([])) [] rfl) (hD.sub (ws' := []) [] (by decide) rfl) hN) rfl rfl hl.1 rfl (lv_room (Nat.le_of_ble_eq_true rfl)) dX9_isRest_28 ⟨(Nat.le_of_ble_eq_true rfl), (Nat.le_of_ble_eq_true rfl)⟩) hP hD hK hS hA [] [] rfl rfl (by decide) (by decide) (fun r28 _ H locs hw hP hD _ hS => ?_)
      obtain ⟨hw, br28⟩ := hw
      obtain rfl := hw.symm
      have hP : va_P (dC, dI) vwCl [] H := hP
      have hD : va_D A [] := hD
      refine lv_if_eq (tgt := 38) hx hb dX9_isRest_31 (by decide) (fun c31 => ?_) (fun c31 => ?_)
      · have h := (if_pos c31).symm.trans h
        refine lv_iconst (v := 0) hx hb dX9_isRest_38 (by decide) ?_
        obtain rfl := Option.some.inj h
        have hP9 := hP.sub (ws' := []) [] rfl
        have hD9 := hD.sub (ws' := []) [] (by decide) rfl
        have hK9 := hK.sub (tys' := []) [] rfl
        rw [hQQ]
        exact W.zret (v := (0 : Int32)) hx hb hr rfl (fun t ht hW => ⟨⟨(0 : Int32), (), rfl, ⟨rfl, (by decide)⟩, by rw [ht]; exact hP9, va_K.moved hW.alike hK9, hD9⟩, hS.F ht⟩) hS.2.2 dX9_isRest_39
      · have h := (if_neg c31).symm.trans h
        refine lv_iconst (v := 1) hx hb dX9_isRest_34 (by decide) ?_
        refine lv_goto (tgt := 39) hx hb dX9_isRest_35 (by decide) ?_
        obtain rfl := Option.some.inj h
        have hP9 := hP.sub (ws' := []) [] rfl
        have hD9 := hD.sub (ws' := []) [] (by decide) rfl
        have hK9 := hK.sub (tys' := []) [] rfl
        rw [hQQ]
        exact W.zret (v := (1 : Int32)) hx hb hr rfl (fun t ht hW => ⟨⟨(1 : Int32), (), rfl, ⟨rfl, (by decide)⟩, by rw [ht]; exact hP9, va_K.moved hW.alike hK9, hD9⟩, hS.F ht⟩) hS.2.2 dX9_isRest_39
theorem dX10_rests_0 : decode cX10_rests 0 = .ok (.aload_n 0, 1) := by decide +kernel
theorem dX10_rests_1 : decode cX10_rests 1 = .ok (.aload_n 0, 1) := by decide +kernel
theorem dX10_rests_12 : decode cX10_rests 12 = .ok (.invokevirtual 79, 3) := by decide +kernel
theorem dX10_rests_15 : decode cX10_rests 15 = .ok (.ifCond .eq 5, 3) := by decide +kernel
theorem dX10_rests_18 : decode cX10_rests 18 = .ok (.iconst (-1), 1) := by decide +kernel
theorem dX10_rests_19 : decode cX10_rests 19 = .ok (.ireturn, 1) := by decide +kernel
theorem dX10_rests_2 : decode cX10_rests 2 = .ok (.iload_n 1, 1) := by decide +kernel
theorem dX10_rests_20 : decode cX10_rests 20 = .ok (.iconst 0, 1) := by decide +kernel
theorem dX10_rests_21 : decode cX10_rests 21 = .ok (.istore_n 2, 1) := by decide +kernel
theorem dX10_rests_22 : decode cX10_rests 22 = .ok (.iconst 0, 1) := by decide +kernel
theorem dX10_rests_23 : decode cX10_rests 23 = .ok (.istore_n 3, 1) := by decide +kernel
theorem dX10_rests_24 : decode cX10_rests 24 = .ok (.iload_n 3, 1) := by decide +kernel
theorem dX10_rests_25 : decode cX10_rests 25 = .ok (.bipush 70, 2) := by decide +kernel
theorem dX10_rests_27 : decode cX10_rests 27 = .ok (.if_icmp .ge 20, 3) := by decide +kernel
theorem dX10_rests_3 : decode cX10_rests 3 = .ok (.iconst 0, 1) := by decide +kernel
theorem dX10_rests_30 : decode cX10_rests 30 = .ok (.iload_n 1, 1) := by decide +kernel
theorem dX10_rests_31 : decode cX10_rests 31 = .ok (.iload_n 3, 1) := by decide +kernel
theorem dX10_rests_32 : decode cX10_rests 32 = .ok (.invokestatic 317, 3) := by decide +kernel
theorem dX10_rests_35 : decode cX10_rests 35 = .ok (.ifCond .eq 6, 3) := by decide +kernel
theorem dX10_rests_38 : decode cX10_rests 38 = .ok (.iinc 2 1, 3) := by decide +kernel
theorem dX10_rests_4 : decode cX10_rests 4 = .ok (.bipush 99, 2) := by decide +kernel
theorem dX10_rests_41 : decode cX10_rests 41 = .ok (.iinc 3 1, 3) := by decide +kernel
theorem dX10_rests_44 : decode cX10_rests 44 = .ok (.goto (-20), 3) := by decide +kernel
theorem dX10_rests_47 : decode cX10_rests 47 = .ok (.iload_n 2, 1) := by decide +kernel
theorem dX10_rests_48 : decode cX10_rests 48 = .ok (.ireturn, 1) := by decide +kernel
theorem dX10_rests_6 : decode cX10_rests 6 = .ok (.invokestatic 75, 3) := by decide +kernel
theorem dX10_rests_9 : decode cX10_rests 9 = .ok (.invokevirtual 169, 3) := by decide +kernel
def vfX10_rests : List Cond := List.cons (.code yX10_rests cX10_rests 4 (some .int)) (apW [.methodLink RX10 75 yX10_within, .static yX10_within, .initialized RX10, .methodLink RX10 169 yX10_numberTrouble, .instanceMethod yX10_numberTrouble, .selects RX10 yX10_numberTrouble yX10_numberTrouble, .methodLink RX10 79 yX10_refused, .instanceMethod yX10_refused, .selects RX10 yX10_refused yX10_refused, .methodLink RX10 317 yX9_isRest, .static yX9_isRest, .initialized RX9] (apW vfX10_within (apW vfX10_numberTrouble (apW vfX10_refused (vfX9_isRest)))))
theorem qfX10_rests : Good vfX10_rests := gd_cons (by decide +kernel) (gd_app (gd_dec (by decide +kernel) : Good [.methodLink RX10 75 yX10_within, .static yX10_within, .initialized RX10, .methodLink RX10 169 yX10_numberTrouble, .instanceMethod yX10_numberTrouble, .selects RX10 yX10_numberTrouble yX10_numberTrouble, .methodLink RX10 79 yX10_refused, .instanceMethod yX10_refused, .selects RX10 yX10_refused yX10_refused, .methodLink RX10 317 yX9_isRest, .static yX9_isRest, .initialized RX9]) (gd_app qfX10_within (gd_app qfX10_numberTrouble (gd_app qfX10_refused qfX9_isRest))))
theorem gfX10_rests_0 : GoodIn vfX10_rests (va_wsS RX10 75 yX10_within vfX10_within) := goodIn_app (goodIn_r [.methodLink RX10 75 yX10_within, .static yX10_within, .initialized RX10] [1, 2, 3] rfl (by decide +kernel)) (goodIn_m (fun _ h => (List.mem_cons_of_mem _ (List.mem_append_right _ (List.mem_append_left _ h)))) qfX10_within)
theorem gfX10_rests_1 : GoodIn vfX10_rests (wsV RX10 169 RX10 yX10_numberTrouble vfX10_numberTrouble) := goodIn_app (goodIn_r [.methodLink RX10 169 yX10_numberTrouble, .instanceMethod yX10_numberTrouble, .selects RX10 yX10_numberTrouble yX10_numberTrouble, .initialized RX10] [4, 5, 6, 3] rfl (by decide +kernel)) (goodIn_m (fun _ h => (List.mem_cons_of_mem _ (List.mem_append_right _ (List.mem_append_right _ (List.mem_append_left _ h))))) qfX10_numberTrouble)
theorem gfX10_rests_2 : GoodIn vfX10_rests (wsV RX10 79 RX10 yX10_refused vfX10_refused) := goodIn_app (goodIn_r [.methodLink RX10 79 yX10_refused, .instanceMethod yX10_refused, .selects RX10 yX10_refused yX10_refused, .initialized RX10] [7, 8, 9, 3] rfl (by decide +kernel)) (goodIn_m (fun _ h => (List.mem_cons_of_mem _ (List.mem_append_right _ (List.mem_append_right _ (List.mem_append_right _ (List.mem_append_left _ h)))))) qfX10_refused)
theorem gfX10_rests_3 : GoodIn vfX10_rests (va_wsS RX10 317 yX9_isRest vfX9_isRest) := goodIn_app (goodIn_r [.methodLink RX10 317 yX9_isRest, .static yX9_isRest, .initialized RX9] [10, 11, 12] rfl (by decide +kernel)) (goodIn_m (fun _ h => (List.mem_cons_of_mem _ (List.mem_append_right _ (List.mem_append_right _ (List.mem_append_right _ (List.mem_append_right _ h)))))) qfX9_isRest)
set_option maxHeartbeats 2000000 in
set_option maxRecDepth 100000 in
theorem kfX10_rests (l : Launch) (dC : Nat → ClassId) (dI : Nat → Nat → Nat) (a0 : Nat) (k1 : Int32) (a2 : Nat) (up : Nat → Nat) (kp : Nat → ClassId) (x_x : TX10_x) (g6 : Value) (g7 : Value) (g8 : Value) (g9 : Value) (g10 : Value) (g11 : Value) (g12 : Value) (p_p : TX6_p) (sz : Nat) (out : (Int32 × TX10_x)) (h : f_X10_rests k1 x_x p_p = some out) : Met l yX10_rests vfX10_rests ({ frames := 3, cells := 0, slots := 0, locals := 69 }) (PC (dC, dI) [.ref a0, .int k1] sz ((a0, .inr (7, [.ref a2, g6, g7, g8, g9, g10, g11, g12, .int x_x.1, .int x_x.2])) :: bX6 a2 up kp p_p []) (tX6 kp ([]))) (va_Qi (S := Unit) (fun (r : Int32) _ => r = out.1) (fun _ t => BC (dC, dI) (va_A ((a0, .inr (7, [.ref a2, g6, g7, g8, g9, g10, g11, g12, .int x_x.1, .int x_x.2])) :: bX6 a2 up kp p_p []) sz) ((a0, .inr (7, [.ref a2, g6, g7, g8, g9, g10, g11, g12, .int out.2.1, .int out.2.2])) :: bX6 a2 up kp p_p []) [] t) (va_A ((a0, .inr (7, [.ref a2, g6, g7, g8, g9, g10, g11, g12, .int x_x.1, .int x_x.2])) :: bX6 a2 up kp p_p []) sz)) 0 0 (va_A ((a0, .inr (7, [.ref a2, g6, g7, g8, g9, g10, g11, g12, .int x_x.1, .int x_x.2])) :: bX6 a2 up kp p_p []) sz) := by
  refine Met.ofW (cc := cX10_rests) (maxL := 4) (ret := (some .int)) (by decide) rfl ?_
  intro p e s m args below meth c s₁ B0 hml hv
  obtain ⟨rfl, hsz, hP, hK, hD0, hN⟩ := hv
  have hx := B0.exec
  have hb := B0.bytes
  have hr := B0.returns
  have hts := atoms_spec (ws := vfX10_rests) B0.pre
  have hown : s.vm.findClass RX10 = some m.cls := findClass_of_methodNamed B0.named
  have hlocks := B0.notSynchronized
  subst hsz
  have hD := hD0.self (sz := s.heap.size)
  generalize hAe : va_A ((a0, .inr (7, [.ref a2, g6, g7, g8, g9, g10, g11, g12, .int x_x.1, .int x_x.2])) :: bX6 a2 up kp p_p []) s.heap.size = A at hD ⊢
  have hA : ∀ q : Nat, s.heap.size ≤ q → A q := fun q h => by rw [← hAe]; exact Or.inr h
  have hS : va_S A s.heap s.heap [] := va_S.rf
  have hP : va_P (dC, dI) vwCl ((a0, .inr (7, [.ref a2, g6, g7, g8, g9, g10, g11, g12, .int x_x.1, .int x_x.2])) :: bX6 a2 up kp p_p []) s.heap := hP
  have hl := lv_entry ([.ref a0, .int k1]) (n := 4) (Nat.le_of_ble_eq_true rfl)
  rw [lg_entry_eq]
  generalize (lg_sl ([.ref a0, .int k1]) ++ List.replicate (4 - (lg_sl ([.ref a0, .int k1])).length) Slot.unset).toArray = ls at hl ⊢
  have hl : lv_has ls 4 [(0, .ref a0), (1, .int k1)] := hl
  refine W_q (fun QQ hQQ => ?_)
  rw [f_X10_rests] at h
  refine lv_aload_n hx hb dX10_rests_0 rfl (lv_at hl 0 rfl) ?_
  refine lv_aload_n hx hb dX10_rests_1 rfl (lv_at hl 0 rfl) ?_
  refine lv_iload_n hx hb dX10_rests_2 rfl (lv_at hl 1 rfl) ?_
  refine lv_iconst (v := 0) hx hb dX10_rests_3 (by decide) ?_
  refine lv_bipush (v := 99) hx hb dX10_rests_4 (by decide) ?_
  obtain ⟨o6, eo6⟩ : ∃ o, o = f_X10_within k1 (0 : Int32) (99 : Int32) := ⟨_, rfl⟩
  have h := nm_of h o6 eo6
  refine cl_i (wc := []) (wr := ((a0, .inr (7, [.ref a2, g6, g7, g8, g9, g10, g11, g12, .int x_x.1, .int x_x.2])) :: bX6 a2 up kp p_p [])) (va_runS (As := [.int k1, .int 0, .int 99]) (rest := [.ref a0, .ref a0]) ⟨hx, hb, hml, hown, hts⟩ (kfX10_within l dC dI k1 (0 : Int32) (99 : Int32) s.heap.size o6 eo6.symm) (va_cwS 3 hts gfX10_rests_0 rfl rfl rfl (by decide +kernel) ⟨(Nat.le_of_ble_eq_true rfl), (Nat.le_of_ble_eq_true rfl)⟩) (PS (hP.sub (ws' := []) [] rfl) (hK.sub (tys' := ([])) [] rfl) (hD.sub (ws' := []) [] (by decide) rfl) hN) rfl rfl hl.1 rfl (lv_room (Nat.le_of_ble_eq_true rfl)) dX10_rests_6 ⟨(Nat.le_of_ble_eq_true rfl), (Nat.le_of_ble_eq_true rfl)⟩) hP hD hK hS hA [] [0, 1, 2, 3, 4, 5, 6, 7, 8, 9, 10] rfl rfl (by decide) (by decide) (fun r6 _ H locs hw hP hD _ hS => ?_)
  obtain ⟨hw, br6⟩ := hw
  obtain rfl := hw.symm
  have hP : va_P (dC, dI) vwCl ((a0, .inr (7, [.ref a2, g6, g7, g8, g9, g10, g11, g12, .int x_x.1, .int x_x.2])) :: bX6 a2 up kp p_p []) H := hP
  have hD : va_D A ((a0, .inr (7, [.ref a2, g6, g7, g8, g9, g10, g11, g12, .int x_x.1, .int x_x.2])) :: bX6 a2 up kp p_p []) := hD
  obtain ⟨o9, eo9⟩ : ∃ o, o = f_X10_numberTrouble o6 p_p := ⟨_, rfl⟩
  have h := nm_of h o9 eo9
  refine cl_i (wc := ((a0, .inr (7, [.ref a2, g6, g7, g8, g9, g10, g11, g12, .int x_x.1, .int x_x.2])) :: bX6 a2 up kp p_p [])) (wr := []) (va_runV (As := [.int o6]) (rest := [.ref a0]) ⟨hx, hb, hml, hown, hts⟩ (kfX10_numberTrouble l dC dI a0 o6 a2 up kp (g6) (g7) (g8) (g9) (g10) (g11) (g12) (.int x_x.1) (.int x_x.2) p_p H.size o9 eo9.symm) (cwV 1 hts gfX10_rests_1 rfl rfl rfl (by decide +kernel) ⟨(Nat.le_of_ble_eq_true rfl), (Nat.le_of_ble_eq_true rfl)⟩) (PV (hP.sub (ws' := ((a0, .inr (7, [.ref a2, g6, g7, g8, g9, g10, g11, g12, .int x_x.1, .int x_x.2])) :: bX6 a2 up kp p_p [])) [0, 1, 2, 3, 4, 5, 6, 7, 8, 9, 10] rfl) (hK.sub (tys' := (tX6 kp ([]))) [0, 1, 2, 3, 4, 5, 6, 7, 8] rfl) (hD.sub (ws' := ((a0, .inr (7, [.ref a2, g6, g7, g8, g9, g10, g11, g12, .int x_x.1, .int x_x.2])) :: bX6 a2 up kp p_p [])) [0, 1, 2, 3, 4, 5, 6, 7, 8, 9, 10] (by decide) rfl) hN 0 rfl rfl) rfl rfl hl.1 rfl (lv_room (Nat.le_of_ble_eq_true rfl)) dX10_rests_9 ⟨(Nat.le_of_ble_eq_true rfl), (Nat.le_of_ble_eq_true rfl)⟩) hP hD hK hS hA [0, 1, 2, 3, 4, 5, 6, 7, 8, 9, 10] [] rfl rfl (by decide) (by decide) (fun r9 _ H locs hw hP hD _ hS => ?_)
  obtain rfl := hw.symm
  have hP : va_P (dC, dI) vwCl ((a0, .inr (7, [.ref a2, g6, g7, g8, g9, g10, g11, g12, .int x_x.1, .int x_x.2])) :: bX6 a2 up kp p_p []) H := hP
  have hD : va_D A ((a0, .inr (7, [.ref a2, g6, g7, g8, g9, g10, g11, g12, .int x_x.1, .int x_x.2])) :: bX6 a2 up kp p_p []) := hD
  obtain ⟨o12, eo12⟩ : ∃ o, o = f_X10_refused o9 x_x := ⟨_, rfl⟩
  have h := nm_of h o12 eo12
  refine cl_i (wc := ([(a0, .inr (7, [.ref a2, g6, g7, g8, g9, g10, g11, g12, .int x_x.1, .int x_x.2]))])) (wr := (bX6 a2 up kp p_p [])) (va_runV (As := [.int o9]) (rest := []) ⟨hx, hb, hml, hown, hts⟩ (kfX10_refused l dC dI a0 o9 x_x (.ref a2) (g6) (g7) (g8) (g9) (g10) (g11) (g12) H.size o12 eo12.symm) (cwV 1 hts gfX10_rests_2 rfl rfl rfl (by decide +kernel) ⟨(Nat.le_of_ble_eq_true rfl), (Nat.le_of_ble_eq_true rfl)⟩) (PV (hP.sub (ws' := ([(a0, .inr (7, [.ref a2, g6, g7, g8, g9, g10, g11, g12, .int x_x.1, .int x_x.2]))])) [0] rfl) (hK.sub (tys' := ([])) [] rfl) (hD.sub (ws' := ([(a0, .inr (7, [.ref a2, g6, g7, g8, g9, g10, g11, g12, .int x_x.1, .int x_x.2]))])) [0] (by decide) rfl) hN 0 rfl rfl) rfl rfl hl.1 rfl (lv_room (Nat.le_of_ble_eq_true rfl)) dX10_rests_12 ⟨(Nat.le_of_ble_eq_true rfl), (Nat.le_of_ble_eq_true rfl)⟩) hP hD hK hS hA [0] [1, 2, 3, 4, 5, 6, 7, 8, 9, 10] rfl rfl (by decide) (by decide) (fun r12 _ H locs hw hP hD _ hS => ?_)
  obtain ⟨hw, br12⟩ := hw
  obtain rfl := hw
  have hP : va_P (dC, dI) vwCl (bX6 a2 up kp p_p ([(a0, .inr (7, [.ref a2, g6, g7, g8, g9, g10, g11, g12, .int o12.2.1, .int o12.2.2]))])) H := hP
  have hD : va_D A (bX6 a2 up kp p_p ([(a0, .inr (7, [.ref a2, g6, g7, g8, g9, g10, g11, g12, .int o12.2.1, .int o12.2.2]))])) := hD
  refine lv_if_eq (tgt := 20) hx hb dX10_rests_15 (by decide) (fun c15 => ?_) (fun c15 => ?_)
  · have h := (if_pos c15).symm.trans h
    refine lv_iconst (v := 0) hx hb dX10_rests_20 (by decide) ?_
    refine lv_istore_n (lv' := [(2, .int 0), (0, .ref a0), (1, .int k1)]) hx hb dX10_rests_21 rfl hl (by decide) rfl (fun ls hl => ?_)
    refine lv_iconst (v := 0) hx hb dX10_rests_22 (by decide) ?_
    refine lv_istore_n (lv' := [(3, .int 0), (2, .int 0), (0, .ref a0), (1, .int k1)]) hx hb dX10_rests_23 rfl hl (by decide) rfl (fun ls hl => ?_)
    have L24 : ∀ (n24 : Nat) (v24_l3 : Int32) (v24_l2 : Int32) (H : Heap) (locs : List Loc) (ls : Array Slot), f_X10_rests_L24 k1 o12 n24 v24_l3 v24_l2 = some out → va_P (dC, dI) vwCl (bX6 a2 up kp p_p ([(a0, .inr (7, [.ref a2, g6, g7, g8, g9, g10, g11, g12, .int o12.2.1, .int o12.2.2]))])) H → va_D A (bX6 a2 up kp p_p ([(a0, .inr (7, [.ref a2, g6, g7, g8, g9, g10, g11, g12, .int o12.2.1, .int o12.2.2]))])) → va_S A s.heap H locs → lv_has ls 4 [(3, .int v24_l3), (2, .int v24_l2), (1, .int k1)] → W p l e (headSpec vfX10_rests { frames := 3, cells := 0, slots := 0, locals := 69 }).room s m ([.ref a0, .int k1]).toArray below meth c H locs 0 0 QQ (F0 m 24 ls []) := by
      intro n24
      induction n24 with
      | zero =>
        intro v24_l3 v24_l2 H locs ls h  _ _ _ _
        rw [f_X10_rests_L24] at h
        cases h
      | succ n24 ih24 =>
        intro v24_l3 v24_l2 H locs ls h  hP hD hS hl
        rw [f_X10_rests_L24] at h
        refine lv_iload_n hx hb dX10_rests_24 rfl (lv_at hl 0 rfl) ?_
        refine lv_bipush (v := 70) hx hb dX10_rests_25 (by decide) ?_
        refine lv_icmp_ge (tgt := 47) hx hb dX10_rests_27 (by decide) (fun c27 => ?_) (fun c27 => ?_)
        · have h := (if_pos c27).symm.trans h
          refine lv_iload_n hx hb dX10_rests_47 rfl (lv_at hl 1 rfl) ?_
          obtain rfl := Option.some.inj h
          have hP9 := hP.sub (ws' := ((a0, .inr (7, [.ref a2, g6, g7, g8, g9, g10, g11, g12, .int o12.2.1, .int o12.2.2])) :: bX6 a2 up kp p_p [])) [10, 0, 1, 2, 3, 4, 5, 6, 7, 8, 9] rfl
          have hD9 := hD.sub (ws' := ((a0, .inr (7, [.ref a2, g6, g7, g8, g9, g10, g11, g12, .int o12.2.1, .int o12.2.2])) :: bX6 a2 up kp p_p [])) [10, 0, 1, 2, 3, 4, 5, 6, 7, 8, 9] (by decide) rfl
          have hK9 := hK.sub (tys' := []) [] rfl
          rw [hQQ]
          exact W.iret (v := v24_l2) hx hb hr (fun t ht hW => ⟨⟨v24_l2, (), rfl, rfl, by rw [ht]; exact hP9, va_K.moved hW.alike hK9, hD9⟩, hS.F ht⟩) hS.2.2 dX10_rests_48
        · have h := (if_neg c27).symm.trans h
          refine lv_iload_n hx hb dX10_rests_30 rfl (lv_at hl 2 rfl) ?_
          refine lv_iload_n hx hb dX10_rests_31 rfl (lv_at hl 0 rfl) ?_
          obtain ⟨o32, eo32, h⟩ := bd_of h
          refine cl_i (wc := []) (wr := (bX6 a2 up kp p_p ([(a0, .inr (7, [.ref a2, g6, g7, g8, g9, g10, g11, g12, .int o12.2.1, .int o12.2.2]))]))) (va_runS (As := [.int k1, .int v24_l3]) (rest := []) ⟨hx, hb, hml, hown, hts⟩ (kfX9_isRest l dC dI k1 v24_l3 H.size o32 eo32) (va_cwS 2 hts gfX10_rests_3 rfl rfl rfl (by decide +kernel) ⟨(Nat.le_of_ble_eq_true rfl), (Nat.le_of_ble_eq_true rfl)⟩) (PS (hP.sub (ws' := []) [] rfl) (hK.sub (tys' := ([])) [] rfl) (hD.sub (ws' := []) [] (by decide) rfl) hN) rfl rfl hl.1 rfl (lv_room (Nat.le_of_ble_eq_true rfl)) dX10_rests_32 ⟨(Nat.le_of_ble_eq_true rfl), (Nat.le_of_ble_eq_true rfl)⟩) hP hD hK hS hA [] [0, 1, 2, 3, 4, 5, 6, 7, 8, 9, 10] rfl rfl (by decide) (by decide) (fun r32 _ H locs hw hP hD _ hS => ?_)
          obtain ⟨hw, br32⟩ := hw
          obtain rfl := hw.symm
          have hP : va_P (dC, dI) vwCl (bX6 a2 up kp p_p ([(a0, .inr (7, [.ref a2, g6, g7, g8, g9, g10, g11, g12, .int o12.2.1, .int o12.2.2]))])) H := hP
          have hD : va_D A (bX6 a2 up kp p_p ([(a0, .inr (7, [.ref a2, g6, g7, g8, g9, g10, g11, g12, .int o12.2.1, .int o12.2.2]))])) := hD
          have J41 : ∀ (v41_l2 : Int32) (H : Heap) (locs : List Loc) (ls : Array Slot), f_X10_rests_J41 (f_X10_rests_L24 k1 o12 n24) v24_l3 v41_l2 = some out → va_P (dC, dI) vwCl (bX6 a2 up kp p_p ([(a0, .inr (7, [.ref a2, g6, g7, g8, g9, g10, g11, g12, .int o12.2.1, .int o12.2.2]))])) H → va_D A (bX6 a2 up kp p_p ([(a0, .inr (7, [.ref a2, g6, g7, g8, g9, g10, g11, g12, .int o12.2.1, .int o12.2.2]))])) → va_S A s.heap H locs → lv_has ls 4 [(3, .int v24_l3), (2, .int v41_l2), (1, .int k1)] → W p l e (headSpec vfX10_rests { frames := 3, cells := 0, slots := 0, locals := 69 }).room s m ([.ref a0, .int k1]).toArray below meth c H locs 0 0 QQ (F0 m 41 ls []) := by
            intro v41_l2 H locs ls h  hP hD hS hl
            rw [f_X10_rests_J41] at h
            refine lv_iinc (v := (v24_l3 + (1 : Int32))) (lv' := [(3, .int (v24_l3 + (1 : Int32))), (2, .int v41_l2), (1, .int k1)]) hx hb dX10_rests_41 hl (k := 0) rfl rfl (by decide) rfl (fun ls hl => ?_)
            refine lv_goto (tgt := 24) hx hb dX10_rests_44 (by decide) ?_
            exact ih24 (v24_l3 + (1 : Int32)) v41_l2 H _ ls h  hP hD hS (lv_sub hl [0, 1, 2] rfl)
          refine lv_if_eq (tgt := 41) hx hb dX10_rests_35 (by decide) (fun c35 => ?_) (fun c35 => ?_)
          · have h := (if_pos c35).symm.trans h
            exact J41 v24_l2 H _ ls h  hP hD hS (lv_sub hl [0, 1, 2] rfl)
          · have h := (if_neg c35).symm.trans h
            refine lv_iinc (v := (v24_l2 + (1 : Int32))) (lv' := [(2, .int (v24_l2 + (1 : Int32))), (3, .int v24_l3), (1, .int k1)]) hx hb dX10_rests_38 hl (k := 1) rfl rfl (by decide) rfl (fun ls hl => ?_)
            exact J41 (v24_l2 + (1 : Int32)) H _ ls h  hP hD hS (lv_sub hl [1, 0, 2] rfl)
    exact L24 FU (0 : Int32) (0 : Int32) H _ ls h  hP hD hS (lv_sub hl [0, 1, 3] rfl)
  · have h := (if_neg c15).symm.trans h
    refine lv_iconst (v := (-1)) hx hb dX10_rests_18 (by decide) ?_
    obtain rfl := Option.some.inj h
    have hP9 := hP.sub (ws' := ((a0, .inr (7, [.ref a2, g6, g7, g8, g9, g10, g11, g12, .int o12.2.1, .int o12.2.2])) :: bX6 a2 up kp p_p [])) [10, 0, 1, 2, 3, 4, 5, 6, 7, 8, 9] rfl
    have hD9 := hD.sub (ws' := ((a0, .inr (7, [.ref a2, g6, g7, g8, g9, g10, g11, g12, .int o12.2.1, .int o12.2.2])) :: bX6 a2 up kp p_p [])) [10, 0, 1, 2, 3, 4, 5, 6, 7, 8, 9] (by decide) rfl
    have hK9 := hK.sub (tys' := []) [] rfl
    rw [hQQ]
    exact W.iret (v := (-1 : Int32)) hx hb hr (fun t ht hW => ⟨⟨(-1 : Int32), (), rfl, rfl, by rw [ht]; exact hP9, va_K.moved hW.alike hK9, hD9⟩, hS.F ht⟩) hS.2.2 dX10_rests_19
theorem dX10_rest_0 : decode cX10_rest 0 = .ok (.aload_n 0, 1) := by decide +kernel
theorem dX10_rest_1 : decode cX10_rest 1 = .ok (.aload_n 0, 1) := by decide +kernel
theorem dX10_rest_12 : decode cX10_rest 12 = .ok (.invokevirtual 79, 3) := by decide +kernel
theorem dX10_rest_15 : decode cX10_rest 15 = .ok (.ifCond .eq 5, 3) := by decide +kernel
theorem dX10_rest_18 : decode cX10_rest 18 = .ok (.iconst (-1), 1) := by decide +kernel
theorem dX10_rest_19 : decode cX10_rest 19 = .ok (.ireturn, 1) := by decide +kernel
theorem dX10_rest_2 : decode cX10_rest 2 = .ok (.iload_n 1, 1) := by decide +kernel
theorem dX10_rest_20 : decode cX10_rest 20 = .ok (.iconst 0, 1) := by decide +kernel
theorem dX10_rest_21 : decode cX10_rest 21 = .ok (.istore_n 2, 1) := by decide +kernel
theorem dX10_rest_22 : decode cX10_rest 22 = .ok (.iload_n 2, 1) := by decide +kernel
theorem dX10_rest_23 : decode cX10_rest 23 = .ok (.bipush 70, 2) := by decide +kernel
theorem dX10_rest_25 : decode cX10_rest 25 = .ok (.if_icmp .ge 19, 3) := by decide +kernel
theorem dX10_rest_28 : decode cX10_rest 28 = .ok (.iload_n 1, 1) := by decide +kernel
theorem dX10_rest_29 : decode cX10_rest 29 = .ok (.iload_n 2, 1) := by decide +kernel
theorem dX10_rest_3 : decode cX10_rest 3 = .ok (.iconst 0, 1) := by decide +kernel
theorem dX10_rest_30 : decode cX10_rest 30 = .ok (.invokestatic 317, 3) := by decide +kernel
theorem dX10_rest_33 : decode cX10_rest 33 = .ok (.ifCond .eq 5, 3) := by decide +kernel
theorem dX10_rest_36 : decode cX10_rest 36 = .ok (.iload_n 2, 1) := by decide +kernel
theorem dX10_rest_37 : decode cX10_rest 37 = .ok (.ireturn, 1) := by decide +kernel
theorem dX10_rest_38 : decode cX10_rest 38 = .ok (.iinc 2 1, 3) := by decide +kernel
theorem dX10_rest_4 : decode cX10_rest 4 = .ok (.bipush 99, 2) := by decide +kernel
theorem dX10_rest_41 : decode cX10_rest 41 = .ok (.goto (-19), 3) := by decide +kernel
theorem dX10_rest_44 : decode cX10_rest 44 = .ok (.bipush (-2), 2) := by decide +kernel
theorem dX10_rest_46 : decode cX10_rest 46 = .ok (.ireturn, 1) := by decide +kernel
theorem dX10_rest_6 : decode cX10_rest 6 = .ok (.invokestatic 75, 3) := by decide +kernel
theorem dX10_rest_9 : decode cX10_rest 9 = .ok (.invokevirtual 169, 3) := by decide +kernel
def vfX10_rest : List Cond := List.cons (.code yX10_rest cX10_rest 3 (some .int)) (apW [.methodLink RX10 75 yX10_within, .static yX10_within, .initialized RX10, .methodLink RX10 169 yX10_numberTrouble, .instanceMethod yX10_numberTrouble, .selects RX10 yX10_numberTrouble yX10_numberTrouble, .methodLink RX10 79 yX10_refused, .instanceMethod yX10_refused, .selects RX10 yX10_refused yX10_refused, .methodLink RX10 317 yX9_isRest, .static yX9_isRest, .initialized RX9] (apW vfX10_within (apW vfX10_numberTrouble (apW vfX10_refused (vfX9_isRest)))))
theorem qfX10_rest : Good vfX10_rest := gd_cons (by decide +kernel) (gd_app (gd_dec (by decide +kernel) : Good [.methodLink RX10 75 yX10_within, .static yX10_within, .initialized RX10, .methodLink RX10 169 yX10_numberTrouble, .instanceMethod yX10_numberTrouble, .selects RX10 yX10_numberTrouble yX10_numberTrouble, .methodLink RX10 79 yX10_refused, .instanceMethod yX10_refused, .selects RX10 yX10_refused yX10_refused, .methodLink RX10 317 yX9_isRest, .static yX9_isRest, .initialized RX9]) (gd_app qfX10_within (gd_app qfX10_numberTrouble (gd_app qfX10_refused qfX9_isRest))))
theorem gfX10_rest_0 : GoodIn vfX10_rest (va_wsS RX10 75 yX10_within vfX10_within) := goodIn_app (goodIn_r [.methodLink RX10 75 yX10_within, .static yX10_within, .initialized RX10] [1, 2, 3] rfl (by decide +kernel)) (goodIn_m (fun _ h => (List.mem_cons_of_mem _ (List.mem_append_right _ (List.mem_append_left _ h)))) qfX10_within)
theorem gfX10_rest_1 : GoodIn vfX10_rest (wsV RX10 169 RX10 yX10_numberTrouble vfX10_numberTrouble) := goodIn_app (goodIn_r [.methodLink RX10 169 yX10_numberTrouble, .instanceMethod yX10_numberTrouble, .selects RX10 yX10_numberTrouble yX10_numberTrouble, .initialized RX10] [4, 5, 6, 3] rfl (by decide +kernel)) (goodIn_m (fun _ h => (List.mem_cons_of_mem _ (List.mem_append_right _ (List.mem_append_right _ (List.mem_append_left _ h))))) qfX10_numberTrouble)
theorem gfX10_rest_2 : GoodIn vfX10_rest (wsV RX10 79 RX10 yX10_refused vfX10_refused) := goodIn_app (goodIn_r [.methodLink RX10 79 yX10_refused, .instanceMethod yX10_refused, .selects RX10 yX10_refused yX10_refused, .initialized RX10] [7, 8, 9, 3] rfl (by decide +kernel)) (goodIn_m (fun _ h => (List.mem_cons_of_mem _ (List.mem_append_right _ (List.mem_append_right _ (List.mem_append_right _ (List.mem_append_left _ h)))))) qfX10_refused)
theorem gfX10_rest_3 : GoodIn vfX10_rest (va_wsS RX10 317 yX9_isRest vfX9_isRest) := goodIn_app (goodIn_r [.methodLink RX10 317 yX9_isRest, .static yX9_isRest, .initialized RX9] [10, 11, 12] rfl (by decide +kernel)) (goodIn_m (fun _ h => (List.mem_cons_of_mem _ (List.mem_append_right _ (List.mem_append_right _ (List.mem_append_right _ (List.mem_append_right _ h)))))) qfX9_isRest)
set_option maxHeartbeats 2000000 in
set_option maxRecDepth 100000 in
theorem kfX10_rest (l : Launch) (dC : Nat → ClassId) (dI : Nat → Nat → Nat) (a0 : Nat) (k1 : Int32) (a2 : Nat) (up : Nat → Nat) (kp : Nat → ClassId) (x_x : TX10_x) (g6 : Value) (g7 : Value) (g8 : Value) (g9 : Value) (g10 : Value) (g11 : Value) (g12 : Value) (p_p : TX6_p) (sz : Nat) (out : (Int32 × TX10_x)) (h : f_X10_rest k1 x_x p_p = some out) : Met l yX10_rest vfX10_rest ({ frames := 3, cells := 0, slots := 0, locals := 69 }) (PC (dC, dI) [.ref a0, .int k1] sz ((a0, .inr (7, [.ref a2, g6, g7, g8, g9, g10, g11, g12, .int x_x.1, .int x_x.2])) :: bX6 a2 up kp p_p []) (tX6 kp ([]))) (va_Qi (S := Unit) (fun (r : Int32) _ => r = out.1) (fun _ t => BC (dC, dI) (va_A ((a0, .inr (7, [.ref a2, g6, g7, g8, g9, g10, g11, g12, .int x_x.1, .int x_x.2])) :: bX6 a2 up kp p_p []) sz) ((a0, .inr (7, [.ref a2, g6, g7, g8, g9, g10, g11, g12, .int out.2.1, .int out.2.2])) :: bX6 a2 up kp p_p []) [] t) (va_A ((a0, .inr (7, [.ref a2, g6, g7, g8, g9, g10, g11, g12, .int x_x.1, .int x_x.2])) :: bX6 a2 up kp p_p []) sz)) 0 0 (va_A ((a0, .inr (7, [.ref a2, g6, g7, g8, g9, g10, g11, g12, .int x_x.1, .int x_x.2])) :: bX6 a2 up kp p_p []) sz) := by
  refine Met.ofW (cc := cX10_rest) (maxL := 3) (ret := (some .int)) (by decide) rfl ?_
  intro p e s m args below meth c s₁ B0 hml hv
  obtain ⟨rfl, hsz, hP, hK, hD0, hN⟩ := hv
  have hx := B0.exec
  have hb := B0.bytes
  have hr := B0.returns
  have hts := atoms_spec (ws := vfX10_rest) B0.pre
  have hown : s.vm.findClass RX10 = some m.cls := findClass_of_methodNamed B0.named
  have hlocks := B0.notSynchronized
  subst hsz
  have hD := hD0.self (sz := s.heap.size)
  generalize hAe : va_A ((a0, .inr (7, [.ref a2, g6, g7, g8, g9, g10, g11, g12, .int x_x.1, .int x_x.2])) :: bX6 a2 up kp p_p []) s.heap.size = A at hD ⊢
  have hA : ∀ q : Nat, s.heap.size ≤ q → A q := fun q h => by rw [← hAe]; exact Or.inr h
  have hS : va_S A s.heap s.heap [] := va_S.rf
  have hP : va_P (dC, dI) vwCl ((a0, .inr (7, [.ref a2, g6, g7, g8, g9, g10, g11, g12, .int x_x.1, .int x_x.2])) :: bX6 a2 up kp p_p []) s.heap := hP
  have hl := lv_entry ([.ref a0, .int k1]) (n := 3) (Nat.le_of_ble_eq_true rfl)
  rw [lg_entry_eq]
  generalize (lg_sl ([.ref a0, .int k1]) ++ List.replicate (3 - (lg_sl ([.ref a0, .int k1])).length) Slot.unset).toArray = ls at hl ⊢
  have hl : lv_has ls 3 [(0, .ref a0), (1, .int k1)] := hl
  refine W_q (fun QQ hQQ => ?_)
  rw [f_X10_rest] at h
  refine lv_aload_n hx hb dX10_rest_0 rfl (lv_at hl 0 rfl) ?_
  refine lv_aload_n hx hb dX10_rest_1 rfl (lv_at hl 0 rfl) ?_
  refine lv_iload_n hx hb dX10_rest_2 rfl (lv_at hl 1 rfl) ?_
  refine lv_iconst (v := 0) hx hb dX10_rest_3 (by decide) ?_
  refine lv_bipush (v := 99) hx hb dX10_rest_4 (by decide) ?_
  obtain ⟨o6, eo6⟩ : ∃ o, o = f_X10_within k1 (0 : Int32) (99 : Int32) := ⟨_, rfl⟩
  have h := nm_of h o6 eo6
  refine cl_i (wc := []) (wr := ((a0, .inr (7, [.ref a2, g6, g7, g8, g9, g10, g11, g12, .int x_x.1, .int x_x.2])) :: bX6 a2 up kp p_p [])) (va_runS (As := [.int k1, .int 0, .int 99]) (rest := [.ref a0, .ref a0]) ⟨hx, hb, hml, hown, hts⟩ (kfX10_within l dC dI k1 (0 : Int32) (99 : Int32) s.heap.size o6 eo6.symm) (va_cwS 3 hts gfX10_rest_0 rfl rfl rfl (by decide +kernel) ⟨(Nat.le_of_ble_eq_true rfl), (Nat.le_of_ble_eq_true rfl)⟩) (PS (hP.sub (ws' := []) [] rfl) (hK.sub (tys' := ([])) [] rfl) (hD.sub (ws' := []) [] (by decide) rfl) hN) rfl rfl hl.1 rfl (lv_room (Nat.le_of_ble_eq_true rfl)) dX10_rest_6 ⟨(Nat.le_of_ble_eq_true rfl), (Nat.le_of_ble_eq_true rfl)⟩) hP hD hK hS hA [] [0, 1, 2, 3, 4, 5, 6, 7, 8, 9, 10] rfl rfl (by decide) (by decide) (fun r6 _ H locs hw hP hD _ hS => ?_)
  obtain ⟨hw, br6⟩ := hw
  obtain rfl := hw.symm
  have hP : va_P (dC, dI) vwCl ((a0, .inr (7, [.ref a2, g6, g7, g8, g9, g10, g11, g12, .int x_x.1, .int x_x.2])) :: bX6 a2 up kp p_p []) H := hP
  have hD : va_D A ((a0, .inr (7, [.ref a2, g6, g7, g8, g9, g10, g11, g12, .int x_x.1, .int x_x.2])) :: bX6 a2 up kp p_p []) := hD
  obtain ⟨o9, eo9⟩ : ∃ o, o = f_X10_numberTrouble o6 p_p := ⟨_, rfl⟩
  have h := nm_of h o9 eo9
  refine cl_i (wc := ((a0, .inr (7, [.ref a2, g6, g7, g8, g9, g10, g11, g12, .int x_x.1, .int x_x.2])) :: bX6 a2 up kp p_p [])) (wr := []) (va_runV (As := [.int o6]) (rest := [.ref a0]) ⟨hx, hb, hml, hown, hts⟩ (kfX10_numberTrouble l dC dI a0 o6 a2 up kp (g6) (g7) (g8) (g9) (g10) (g11) (g12) (.int x_x.1) (.int x_x.2) p_p H.size o9 eo9.symm) (cwV 1 hts gfX10_rest_1 rfl rfl rfl (by decide +kernel) ⟨(Nat.le_of_ble_eq_true rfl), (Nat.le_of_ble_eq_true rfl)⟩) (PV (hP.sub (ws' := ((a0, .inr (7, [.ref a2, g6, g7, g8, g9, g10, g11, g12, .int x_x.1, .int x_x.2])) :: bX6 a2 up kp p_p [])) [0, 1, 2, 3, 4, 5, 6, 7, 8, 9, 10] rfl) (hK.sub (tys' := (tX6 kp ([]))) [0, 1, 2, 3, 4, 5, 6, 7, 8] rfl) (hD.sub (ws' := ((a0, .inr (7, [.ref a2, g6, g7, g8, g9, g10, g11, g12, .int x_x.1, .int x_x.2])) :: bX6 a2 up kp p_p [])) [0, 1, 2, 3, 4, 5, 6, 7, 8, 9, 10] (by decide) rfl) hN 0 rfl rfl) rfl rfl hl.1 rfl (lv_room (Nat.le_of_ble_eq_true rfl)) dX10_rest_9 ⟨(Nat.le_of_ble_eq_true rfl), (Nat.le_of_ble_eq_true rfl)⟩) hP hD hK hS hA [0, 1, 2, 3, 4, 5, 6, 7, 8, 9, 10] [] rfl rfl (by decide) (by decide) (fun r9 _ H locs hw hP hD _ hS => ?_)
  obtain rfl := hw.symm
  have hP : va_P (dC, dI) vwCl ((a0, .inr (7, [.ref a2, g6, g7, g8, g9, g10, g11, g12, .int x_x.1, .int x_x.2])) :: bX6 a2 up kp p_p []) H := hP
  have hD : va_D A ((a0, .inr (7, [.ref a2, g6, g7, g8, g9, g10, g11, g12, .int x_x.1, .int x_x.2])) :: bX6 a2 up kp p_p []) := hD
  obtain ⟨o12, eo12⟩ : ∃ o, o = f_X10_refused o9 x_x := ⟨_, rfl⟩
  have h := nm_of h o12 eo12
  refine cl_i (wc := ([(a0, .inr (7, [.ref a2, g6, g7, g8, g9, g10, g11, g12, .int x_x.1, .int x_x.2]))])) (wr := (bX6 a2 up kp p_p [])) (va_runV (As := [.int o9]) (rest := []) ⟨hx, hb, hml, hown, hts⟩ (kfX10_refused l dC dI a0 o9 x_x (.ref a2) (g6) (g7) (g8) (g9) (g10) (g11) (g12) H.size o12 eo12.symm) (cwV 1 hts gfX10_rest_2 rfl rfl rfl (by decide +kernel) ⟨(Nat.le_of_ble_eq_true rfl), (Nat.le_of_ble_eq_true rfl)⟩) (PV (hP.sub (ws' := ([(a0, .inr (7, [.ref a2, g6, g7, g8, g9, g10, g11, g12, .int x_x.1, .int x_x.2]))])) [0] rfl) (hK.sub (tys' := ([])) [] rfl) (hD.sub (ws' := ([(a0, .inr (7, [.ref a2, g6, g7, g8, g9, g10, g11, g12, .int x_x.1, .int x_x.2]))])) [0] (by decide) rfl) hN 0 rfl rfl) rfl rfl hl.1 rfl (lv_room (Nat.le_of_ble_eq_true rfl)) dX10_rest_12 ⟨(Nat.le_of_ble_eq_true rfl), (Nat.le_of_ble_eq_true rfl)⟩) hP hD hK hS hA [0] [1, 2, 3, 4, 5, 6, 7, 8, 9, 10] rfl rfl (by decide) (by decide) (fun r12 _ H locs hw hP hD _ hS => ?_)
  obtain ⟨hw, br12⟩ := hw
  obtain rfl := hw
  have hP : va_P (dC, dI) vwCl (bX6 a2 up kp p_p ([(a0, .inr (7, [.ref a2, g6, g7, g8, g9, g10, g11, g12, .int o12.2.1, .int o12.2.2]))])) H := hP
  have hD : va_D A (bX6 a2 up kp p_p ([(a0, .inr (7, [.ref a2, g6, g7, g8, g9, g10, g11, g12, .int o12.2.1, .int o12.2.2]))])) := hD
  refine lv_if_eq (tgt := 20) hx hb dX10_rest_15 (by decide) (fun c15 => ?_) (fun c15 => ?_)
  · have h := (if_pos c15).symm.trans h
    refine lv_iconst (v := 0) hx hb dX10_rest_20 (by decide) ?_
    refine lv_istore_n (lv' := [(2, .int 0), (0, .ref a0), (1, .int k1)]) hx hb dX10_rest_21 rfl hl (by decide) rfl (fun ls hl => ?_)
    have L22 : ∀ (n22 : Nat) (v22_l2 : Int32) (H : Heap) (locs : List Loc) (ls : Array Slot), f_X10_rest_L22 k1 o12 n22 v22_l2 = some out → va_P (dC, dI) vwCl (bX6 a2 up kp p_p ([(a0, .inr (7, [.ref a2, g6, g7, g8, g9, g10, g11, g12, .int o12.2.1, .int o12.2.2]))])) H → va_D A (bX6 a2 up kp p_p ([(a0, .inr (7, [.ref a2, g6, g7, g8, g9, g10, g11, g12, .int o12.2.1, .int o12.2.2]))])) → va_S A s.heap H locs → lv_has ls 3 [(2, .int v22_l2), (1, .int k1)] → W p l e (headSpec vfX10_rest { frames := 3, cells := 0, slots := 0, locals := 69 }).room s m ([.ref a0, .int k1]).toArray below meth c H locs 0 0 QQ (F0 m 22 ls []) := by
      intro n22
      induction n22 with
      | zero =>
        intro v22_l2 H locs ls h  _ _ _ _
        rw [f_X10_rest_L22] at h
        cases h
      | succ n22 ih22 =>
        intro v22_l2 H locs ls h  hP hD hS hl
        rw [f_X10_rest_L22] at h
        refine lv_iload_n hx hb dX10_rest_22 rfl (lv_at hl 0 rfl) ?_
        refine lv_bipush (v := 70) hx hb dX10_rest_23 (by decide) ?_
        refine lv_icmp_ge (tgt := 44) hx hb dX10_rest_25 (by decide) (fun c25 => ?_) (fun c25 => ?_)
        · have h := (if_pos c25).symm.trans h
          refine lv_bipush (v := (-2)) hx hb dX10_rest_44 (by decide) ?_
          obtain rfl := Option.some.inj h
          have hP9 := hP.sub (ws' := ((a0, .inr (7, [.ref a2, g6, g7, g8, g9, g10, g11, g12, .int o12.2.1, .int o12.2.2])) :: bX6 a2 up kp p_p [])) [10, 0, 1, 2, 3, 4, 5, 6, 7, 8, 9] rfl
          have hD9 := hD.sub (ws' := ((a0, .inr (7, [.ref a2, g6, g7, g8, g9, g10, g11, g12, .int o12.2.1, .int o12.2.2])) :: bX6 a2 up kp p_p [])) [10, 0, 1, 2, 3, 4, 5, 6, 7, 8, 9] (by decide) rfl
          have hK9 := hK.sub (tys' := []) [] rfl
          rw [hQQ]
          exact W.iret (v := (-2 : Int32)) hx hb hr (fun t ht hW => ⟨⟨(-2 : Int32), (), rfl, rfl, by rw [ht]; exact hP9, va_K.moved hW.alike hK9, hD9⟩, hS.F ht⟩) hS.2.2 dX10_rest_46
        · have h := (if_neg c25).symm.trans h
          refine lv_iload_n hx hb dX10_rest_28 rfl (lv_at hl 1 rfl) ?_
          refine lv_iload_n hx hb dX10_rest_29 rfl (lv_at hl 0 rfl) ?_
          obtain ⟨o30, eo30, h⟩ := bd_of h
          refine cl_i (wc := []) (wr := (bX6 a2 up kp p_p ([(a0, .inr (7, [.ref a2, g6, g7, g8, g9, g10, g11, g12, .int o12.2.1, .int o12.2.2]))]))) (va_runS (As := [.int k1, .int v22_l2]) (rest := []) ⟨hx, hb, hml, hown, hts⟩ (kfX9_isRest l dC dI k1 v22_l2 H.size o30 eo30) (va_cwS 2 hts gfX10_rest_3 rfl rfl rfl (by decide +kernel) ⟨(Nat.le_of_ble_eq_true rfl), (Nat.le_of_ble_eq_true rfl)⟩) (PS (hP.sub (ws' := []) [] rfl) (hK.sub (tys' := ([])) [] rfl) (hD.sub (ws' := []) [] (by decide) rfl) hN) rfl rfl hl.1 rfl (lv_room (Nat.le_of_ble_eq_true rfl)) dX10_rest_30 ⟨(Nat.le_of_ble_eq_true rfl), (Nat.le_of_ble_eq_true rfl)⟩) hP hD hK hS hA [] [0, 1, 2, 3, 4, 5, 6, 7, 8, 9, 10] rfl rfl (by decide) (by decide) (fun r30 _ H locs hw hP hD _ hS => ?_)
          obtain ⟨hw, br30⟩ := hw
          obtain rfl := hw.symm
          have hP : va_P (dC, dI) vwCl (bX6 a2 up kp p_p ([(a0, .inr (7, [.ref a2, g6, g7, g8, g9, g10, g11, g12, .int o12.2.1, .int o12.2.2]))])) H := hP
          have hD : va_D A (bX6 a2 up kp p_p ([(a0, .inr (7, [.ref a2, g6, g7, g8, g9, g10, g11, g12, .int o12.2.1, .int o12.2.2]))])) := hD
          refine lv_if_eq (tgt := 38) hx hb dX10_rest_33 (by decide) (fun c33 => ?_) (fun c33 => ?_)
          · have h := (if_pos c33).symm.trans h
            refine lv_iinc (v := (v22_l2 + (1 : Int32))) (lv' := [(2, .int (v22_l2 + (1 : Int32))), (1, .int k1)]) hx hb dX10_rest_38 hl (k := 0) rfl rfl (by decide) rfl (fun ls hl => ?_)
            refine lv_goto (tgt := 22) hx hb dX10_rest_41 (by decide) ?_
            exact ih22 (v22_l2 + (1 : Int32)) H _ ls h  hP hD hS (lv_sub hl [0, 1] rfl)
          · have h := (if_neg c33).symm.trans h
            refine lv_iload_n hx hb dX10_rest_36 rfl (lv_at hl 0 rfl) ?_
            obtain rfl := Option.some.inj h
            have hP9 := hP.sub (ws' := ((a0, .inr (7, [.ref a2, g6, g7, g8, g9, g10, g11, g12, .int o12.2.1, .int o12.2.2])) :: bX6 a2 up kp p_p [])) [10, 0, 1, 2, 3, 4, 5, 6, 7, 8, 9] rfl
            have hD9 := hD.sub (ws' := ((a0, .inr (7, [.ref a2, g6, g7, g8, g9, g10, g11, g12, .int o12.2.1, .int o12.2.2])) :: bX6 a2 up kp p_p [])) [10, 0, 1, 2, 3, 4, 5, 6, 7, 8, 9] (by decide) rfl
            have hK9 := hK.sub (tys' := []) [] rfl
            rw [hQQ]
            exact W.iret (v := v22_l2) hx hb hr (fun t ht hW => ⟨⟨v22_l2, (), rfl, rfl, by rw [ht]; exact hP9, va_K.moved hW.alike hK9, hD9⟩, hS.F ht⟩) hS.2.2 dX10_rest_37
    exact L22 FU (0 : Int32) H _ ls h  hP hD hS (lv_sub hl [0, 2] rfl)
  · have h := (if_neg c15).symm.trans h
    refine lv_iconst (v := (-1)) hx hb dX10_rest_18 (by decide) ?_
    obtain rfl := Option.some.inj h
    have hP9 := hP.sub (ws' := ((a0, .inr (7, [.ref a2, g6, g7, g8, g9, g10, g11, g12, .int o12.2.1, .int o12.2.2])) :: bX6 a2 up kp p_p [])) [10, 0, 1, 2, 3, 4, 5, 6, 7, 8, 9] rfl
    have hD9 := hD.sub (ws' := ((a0, .inr (7, [.ref a2, g6, g7, g8, g9, g10, g11, g12, .int o12.2.1, .int o12.2.2])) :: bX6 a2 up kp p_p [])) [10, 0, 1, 2, 3, 4, 5, 6, 7, 8, 9] (by decide) rfl
    have hK9 := hK.sub (tys' := []) [] rfl
    rw [hQQ]
    exact W.iret (v := (-1 : Int32)) hx hb hr (fun t ht hW => ⟨⟨(-1 : Int32), (), rfl, rfl, by rw [ht]; exact hP9, va_K.moved hW.alike hK9, hD9⟩, hS.F ht⟩) hS.2.2 dX10_rest_19
theorem dX10_isForecast_0 : decode cX10_isForecast 0 = .ok (.iload_n 0, 1) := by decide +kernel
theorem dX10_isForecast_1 : decode cX10_isForecast 1 = .ok (.iconst 0, 1) := by decide +kernel
theorem dX10_isForecast_11 : decode cX10_isForecast 11 = .ok (.iload_n 1, 1) := by decide +kernel
theorem dX10_isForecast_12 : decode cX10_isForecast 12 = .ok (.iconst 0, 1) := by decide +kernel
theorem dX10_isForecast_13 : decode cX10_isForecast 13 = .ok (.bipush 60, 2) := by decide +kernel
theorem dX10_isForecast_15 : decode cX10_isForecast 15 = .ok (.invokestatic 75, 3) := by decide +kernel
theorem dX10_isForecast_18 : decode cX10_isForecast 18 = .ok (.ifCond .eq 7, 3) := by decide +kernel
theorem dX10_isForecast_2 : decode cX10_isForecast 2 = .ok (.ldc_w 350, 3) := by decide +kernel
theorem dX10_isForecast_21 : decode cX10_isForecast 21 = .ok (.iconst 1, 1) := by decide +kernel
theorem dX10_isForecast_22 : decode cX10_isForecast 22 = .ok (.goto 4, 3) := by decide +kernel
theorem dX10_isForecast_25 : decode cX10_isForecast 25 = .ok (.iconst 0, 1) := by decide +kernel
theorem dX10_isForecast_26 : decode cX10_isForecast 26 = .ok (.ireturn, 1) := by decide +kernel
theorem dX10_isForecast_5 : decode cX10_isForecast 5 = .ok (.invokestatic 75, 3) := by decide +kernel
theorem dX10_isForecast_8 : decode cX10_isForecast 8 = .ok (.ifCond .eq 17, 3) := by decide +kernel
def vfX10_isForecast : List Cond := List.cons (.code yX10_isForecast cX10_isForecast 2 (some .boolean)) (apW [.constant RX10 350 (65536), .methodLink RX10 75 yX10_within, .static yX10_within, .initialized RX10] (vfX10_within))
theorem qfX10_isForecast : Good vfX10_isForecast := gd_cons (by decide +kernel) (gd_app (gd_dec (by decide +kernel) : Good [.constant RX10 350 (65536), .methodLink RX10 75 yX10_within, .static yX10_within, .initialized RX10]) qfX10_within)
theorem gfX10_isForecast_0 : GoodIn vfX10_isForecast (va_wsS RX10 75 yX10_within vfX10_within) := goodIn_app (goodIn_r [.methodLink RX10 75 yX10_within, .static yX10_within, .initialized RX10] [2, 3, 4] rfl (by decide +kernel)) (goodIn_m (fun _ h => (List.mem_cons_of_mem _ (List.mem_append_right _ h))) qfX10_within)
set_option maxHeartbeats 2000000 in
set_option maxRecDepth 100000 in
theorem kfX10_isForecast (l : Launch) (dC : Nat → ClassId) (dI : Nat → Nat → Nat) (k0 : Int32) (k1 : Int32) (sz : Nat) (out : Int32) (h : f_X10_isForecast k0 k1 = out) : Met l yX10_isForecast vfX10_isForecast ({ frames := 1, cells := 0, slots := 0, locals := 22 }) (PC (dC, dI) [.int k0, .int k1] sz [] ([])) (va_Qi (S := Unit) (fun (r : Int32) _ => r = out ∧ (0 ≤ r.toInt ∧ r.toInt ≤ 1)) (fun _ t => BC (dC, dI) (va_A [] sz) [] [] t) (va_A [] sz)) 0 0 (va_A [] sz) := by
  refine Met.ofW (cc := cX10_isForecast) (maxL := 2) (ret := (some .boolean)) (by decide) rfl ?_
  intro p e s m args below meth c s₁ B0 hml hv
  obtain ⟨rfl, hsz, hP, hK, hD0, hN⟩ := hv
  have hx := B0.exec
  have hb := B0.bytes
  have hr := B0.returns
  have hts := atoms_spec (ws := vfX10_isForecast) B0.pre
  have hown : s.vm.findClass RX10 = some m.cls := findClass_of_methodNamed B0.named
  have hlocks := B0.notSynchronized
  subst hsz
  have hD := hD0.self (sz := s.heap.size)
  generalize hAe : va_A [] s.heap.size = A at hD ⊢
  have hA : ∀ q : Nat, s.heap.size ≤ q → A q := fun q h => by rw [← hAe]; exact Or.inr h
  have hS : va_S A s.heap s.heap [] := va_S.rf
  have hP : va_P (dC, dI) vwCl [] s.heap := hP
  have hl := lv_entry ([.int k0, .int k1]) (n := 2) (Nat.le_of_ble_eq_true rfl)
  rw [lg_entry_eq]
  generalize (lg_sl ([.int k0, .int k1]) ++ List.replicate (2 - (lg_sl ([.int k0, .int k1])).length) Slot.unset).toArray = ls at hl ⊢
  have hl : lv_has ls 2 [(0, .int k0), (1, .int k1)] := hl
  refine W_q (fun QQ hQQ => ?_)
  rw [f_X10_isForecast] at h
  refine lv_iload_n hx hb dX10_isForecast_0 rfl (lv_at hl 0 rfl) ?_
  refine lv_iconst (v := 0) hx hb dX10_isForecast_1 (by decide) ?_
  refine lv_ldcw hx hb hown (hts (.constant RX10 350 (65536)) (List.mem_of_getElem? (i := 1) rfl)) dX10_isForecast_2 ?_
  obtain ⟨o5, eo5⟩ : ∃ o, o = f_X10_within k0 (0 : Int32) (65536 : Int32) := ⟨_, rfl⟩
  have h := nm_of h o5 eo5
  refine cl_i (wc := []) (wr := []) (va_runS (As := [.int k0, .int 0, .int 65536]) (rest := []) ⟨hx, hb, hml, hown, hts⟩ (kfX10_within l dC dI k0 (0 : Int32) (65536 : Int32) s.heap.size o5 eo5.symm) (va_cwS 3 hts gfX10_isForecast_0 rfl rfl rfl (by decide +kernel) ⟨(Nat.le_of_ble_eq_true rfl), (Nat.le_of_ble_eq_true rfl)⟩) (PS (hP.sub (ws' := []) [] rfl) (hK.sub (tys' := ([])) [] rfl) (hD.sub (ws' := []) [] (by decide) rfl) hN) rfl rfl hl.1 rfl (lv_room (Nat.le_of_ble_eq_true rfl)) dX10_isForecast_5 ⟨(Nat.le_of_ble_eq_true rfl), (Nat.le_of_ble_eq_true rfl)⟩) hP hD hK hS hA [] [] rfl rfl (by decide) (by decide) (fun r5 _ H locs hw hP hD _ hS => ?_)
  obtain ⟨hw, br5⟩ := hw
  obtain rfl := hw.symm
  have hP : va_P (dC, dI) vwCl [] H := hP
  have hD : va_D A [] := hD
  refine lv_if_eq (tgt := 25) hx hb dX10_isForecast_8 (by decide) (fun c8 => ?_) (fun c8 => ?_)
  · have h := (if_pos c8).symm.trans h
    refine lv_iconst (v := 0) hx hb dX10_isForecast_25 (by decide) ?_
    obtain rfl := h
    have hP9 := hP.sub (ws' := []) [] rfl
    have hD9 := hD.sub (ws' := []) [] (by decide) rfl
    have hK9 := hK.sub (tys' := []) [] rfl
    rw [hQQ]
    exact W.zret (v := (0 : Int32)) hx hb hr rfl (fun t ht hW => ⟨⟨(0 : Int32), (), rfl, ⟨rfl, (by decide)⟩, by rw [ht]; exact hP9, va_K.moved hW.alike hK9, hD9⟩, hS.F ht⟩) hS.2.2 dX10_isForecast_26
  · have h := (if_neg c8).symm.trans h
    refine lv_iload_n hx hb dX10_isForecast_11 rfl (lv_at hl 1 rfl) ?_
    refine lv_iconst (v := 0) hx hb dX10_isForecast_12 (by decide) ?_
    refine lv_bipush (v := 60) hx hb dX10_isForecast_13 (by decide) ?_
    obtain ⟨o15, eo15⟩ : ∃ o, o = f_X10_within k1 (0 : Int32) (60 : Int32) := ⟨_, rfl⟩
    have h := nm_of h o15 eo15
    refine cl_i (wc := []) (wr := []) (va_runS (As := [.int k1, .int 0, .int 60]) (rest := []) ⟨hx, hb, hml, hown, hts⟩ (kfX10_within l dC dI k1 (0 : Int32) (60 : Int32) H.size o15 eo15.symm) (va_cwS 3 hts gfX10_isForecast_0 rfl rfl rfl (by decide +kernel) ⟨(Nat.le_of_ble_eq_true rfl), (Nat.le_of_ble_eq_true rfl)⟩) (PS (hP.sub (ws' := []) [] rfl) (hK.sub (tys' := ([])) [] rfl) (hD.sub (ws' := []) [] (by decide) rfl) hN) rfl rfl hl.1 rfl (lv_room (Nat.le_of_ble_eq_true rfl)) dX10_isForecast_15 ⟨(Nat.le_of_ble_eq_true rfl), (Nat.le_of_ble_eq_true rfl)⟩) hP hD hK hS hA [] [] rfl rfl (by decide) (by decide) (fun r15 _ H locs hw hP hD _ hS => ?_)
    obtain ⟨hw, br15⟩ := hw
    obtain rfl := hw.symm
    have hP : va_P (dC, dI) vwCl [] H := hP
    have hD : va_D A [] := hD
    refine lv_if_eq (tgt := 25) hx hb dX10_isForecast_18 (by decide) (fun c18 => ?_) (fun c18 => ?_)
    · have h := (if_pos c18).symm.trans h
      refine lv_iconst (v := 0) hx hb dX10_isForecast_25 (by decide) ?_
      obtain rfl := h
      have hP9 := hP.sub (ws' := []) [] rfl
      have hD9 := hD.sub (ws' := []) [] (by decide) rfl
      have hK9 := hK.sub (tys' := []) [] rfl
      rw [hQQ]
      exact W.zret (v := (0 : Int32)) hx hb hr rfl (fun t ht hW => ⟨⟨(0 : Int32), (), rfl, ⟨rfl, (by decide)⟩, by rw [ht]; exact hP9, va_K.moved hW.alike hK9, hD9⟩, hS.F ht⟩) hS.2.2 dX10_isForecast_26
    · have h := (if_neg c18).symm.trans h
      refine lv_iconst (v := 1) hx hb dX10_isForecast_21 (by decide) ?_
      refine lv_goto (tgt := 26) hx hb dX10_isForecast_22 (by decide) ?_
      obtain rfl := h
      have hP9 := hP.sub (ws' := []) [] rfl
      have hD9 := hD.sub (ws' := []) [] (by decide) rfl
      have hK9 := hK.sub (tys' := []) [] rfl
      rw [hQQ]
      exact W.zret (v := (1 : Int32)) hx hb hr rfl (fun t ht hW => ⟨⟨(1 : Int32), (), rfl, ⟨rfl, (by decide)⟩, by rw [ht]; exact hP9, va_K.moved hW.alike hK9, hD9⟩, hS.F ht⟩) hS.2.2 dX10_isForecast_26
theorem dX1_note_0 : decode cX1_note 0 = .ok (.aload_n 0, 1) := by decide +kernel
theorem dX1_note_1 : decode cX1_note 1 = .ok (.dup, 1) := by decide +kernel
theorem dX1_note_10 : decode cX1_note 10 = .ok (.putfield 18, 3) := by decide +kernel
theorem dX1_note_13 : decode cX1_note 13 = .ok (.iconst 0, 1) := by decide +kernel
theorem dX1_note_14 : decode cX1_note 14 = .ok (.istore_n 3, 1) := by decide +kernel
theorem dX1_note_15 : decode cX1_note 15 = .ok (.iload_n 3, 1) := by decide +kernel
theorem dX1_note_16 : decode cX1_note 16 = .ok (.aload_n 0, 1) := by decide +kernel
theorem dX1_note_17 : decode cX1_note 17 = .ok (.getfield 25, 3) := by decide +kernel
theorem dX1_note_2 : decode cX1_note 2 = .ok (.getfield 18, 3) := by decide +kernel
theorem dX1_note_20 : decode cX1_note 20 = .ok (.arraylength, 1) := by decide +kernel
theorem dX1_note_21 : decode cX1_note 21 = .ok (.if_icmp .ge 25, 3) := by decide +kernel
theorem dX1_note_24 : decode cX1_note 24 = .ok (.iload_n 1, 1) := by decide +kernel
theorem dX1_note_25 : decode cX1_note 25 = .ok (.iload_n 3, 1) := by decide +kernel
theorem dX1_note_26 : decode cX1_note 26 = .ok (.ishr, 1) := by decide +kernel
theorem dX1_note_27 : decode cX1_note 27 = .ok (.iconst 1, 1) := by decide +kernel
theorem dX1_note_28 : decode cX1_note 28 = .ok (.iand, 1) := by decide +kernel
theorem dX1_note_29 : decode cX1_note 29 = .ok (.iconst 1, 1) := by decide +kernel
theorem dX1_note_30 : decode cX1_note 30 = .ok (.if_icmp .ne 10, 3) := by decide +kernel
theorem dX1_note_33 : decode cX1_note 33 = .ok (.aload_n 0, 1) := by decide +kernel
theorem dX1_note_34 : decode cX1_note 34 = .ok (.getfield 25, 3) := by decide +kernel
theorem dX1_note_37 : decode cX1_note 37 = .ok (.iload_n 3, 1) := by decide +kernel
theorem dX1_note_38 : decode cX1_note 38 = .ok (.iload_n 2, 1) := by decide +kernel
theorem dX1_note_39 : decode cX1_note 39 = .ok (.iastore, 1) := by decide +kernel
theorem dX1_note_40 : decode cX1_note 40 = .ok (.iinc 3 1, 3) := by decide +kernel
theorem dX1_note_43 : decode cX1_note 43 = .ok (.goto (-28), 3) := by decide +kernel
theorem dX1_note_46 : decode cX1_note 46 = .ok (.return_, 1) := by decide +kernel
theorem dX1_note_5 : decode cX1_note 5 = .ok (.iload_n 1, 1) := by decide +kernel
theorem dX1_note_6 : decode cX1_note 6 = .ok (.invokestatic 47, 3) := by decide +kernel
theorem dX1_note_9 : decode cX1_note 9 = .ok (.iadd, 1) := by decide +kernel
def vfX1_note : List Cond := List.cons (.code yX1_note cX1_note 4 none) (apW [.fieldLink RX1 18 "HookPier$Days" "landedMany" "I", .methodLink RX1 47 yJ6_bitCount_0f7a4, .static yJ6_bitCount_0f7a4, .initialized RJ6, .fieldLink RX1 25 "HookPier$Days" "landedInDay" "[I"] (apW wsX10 (vfJ6_bitCount_0f7a4)))
theorem ifX1_note_X1 : ∀ w ∈ wsX10, w ∈ vfX1_note := fun _ h => (List.mem_cons_of_mem _ (List.mem_append_right _ (List.mem_append_left _ h)))
theorem qfX1_note : Good vfX1_note := gd_cons (by decide +kernel) (gd_app (gd_dec (by decide +kernel) : Good [.fieldLink RX1 18 "HookPier$Days" "landedMany" "I", .methodLink RX1 47 yJ6_bitCount_0f7a4, .static yJ6_bitCount_0f7a4, .initialized RJ6, .fieldLink RX1 25 "HookPier$Days" "landedInDay" "[I"]) (gd_app qsX1 qfJ6_bitCount_0f7a4))
theorem gfX1_note_0 : GoodIn vfX1_note (va_wsS RX1 47 yJ6_bitCount_0f7a4 vfJ6_bitCount_0f7a4) := goodIn_app (goodIn_r [.methodLink RX1 47 yJ6_bitCount_0f7a4, .static yJ6_bitCount_0f7a4, .initialized RJ6] [2, 3, 4] rfl (by decide +kernel)) (goodIn_m (fun _ h => (List.mem_cons_of_mem _ (List.mem_append_right _ (List.mem_append_right _ h)))) qfJ6_bitCount_0f7a4)
set_option maxHeartbeats 2000000 in
set_option maxRecDepth 100000 in
theorem kfX1_note (l : Launch) (dC : Nat → ClassId) (dI : Nat → Nat → Nat) (a0 : Nat) (k1 : Int32) (k2 : Int32) (a3 : Nat) (y_y : TX1_y) (g5 : Value) (cB6 : ClassId) (sz : Nat) (out : TX1_y) (h : f_X1_note k1 k2 y_y = some out) : Met l yX1_note vfX1_note ({ frames := 1, cells := 0, slots := 0, locals := 20 }) (PC (dC, dI) [.ref a0, .int k1, .int k2] sz ([(a0, .inr (1, [g5, .int y_y.1, .int y_y.2.1, .ref a3])), (a3, .inl (cB6, 6, .inl y_y.2.2))]) ((cB6, .int) :: [])) (va_Qv (S := Unit) (fun _ => True) (fun _ t => BC (dC, dI) (va_A ([(a0, .inr (1, [g5, .int y_y.1, .int y_y.2.1, .ref a3])), (a3, .inl (cB6, 6, .inl y_y.2.2))]) sz) ([(a0, .inr (1, [g5, .int out.1, .int out.2.1, .ref a3])), (a3, .inl (cB6, 6, .inl out.2.2))]) [] t) (va_A ([(a0, .inr (1, [g5, .int y_y.1, .int y_y.2.1, .ref a3])), (a3, .inl (cB6, 6, .inl y_y.2.2))]) sz)) 0 0 (va_A ([(a0, .inr (1, [g5, .int y_y.1, .int y_y.2.1, .ref a3])), (a3, .inl (cB6, 6, .inl y_y.2.2))]) sz) := by
  refine Met.ofW (cc := cX1_note) (maxL := 4) (ret := none) (by decide) rfl ?_
  intro p e s m args below meth c s₁ B0 hml hv
  obtain ⟨rfl, hsz, hP, hK, hD0, hN⟩ := hv
  have hx := B0.exec
  have hb := B0.bytes
  have hr := B0.returns
  have hts := atoms_spec (ws := vfX1_note) B0.pre
  have hown : s.vm.findClass RX1 = some m.cls := findClass_of_methodNamed B0.named
  have hlocks := B0.notSynchronized
  subst hsz
  have hD := hD0.self (sz := s.heap.size)
  generalize hAe : va_A ([(a0, .inr (1, [g5, .int y_y.1, .int y_y.2.1, .ref a3])), (a3, .inl (cB6, 6, .inl y_y.2.2))]) s.heap.size = A at hD ⊢
  have hA : ∀ q : Nat, s.heap.size ≤ q → A q := fun q h => by rw [← hAe]; exact Or.inr h
  have hS : va_S A s.heap s.heap [] := va_S.rf
  have hP : va_P (dC, dI) vwCl ([(a0, .inr (1, [g5, .int y_y.1, .int y_y.2.1, .ref a3])), (a3, .inl (cB6, 6, .inl y_y.2.2))]) s.heap := hP
  have hl := lv_entry ([.ref a0, .int k1, .int k2]) (n := 4) (Nat.le_of_ble_eq_true rfl)
  rw [lg_entry_eq]
  generalize (lg_sl ([.ref a0, .int k1, .int k2]) ++ List.replicate (4 - (lg_sl ([.ref a0, .int k1, .int k2])).length) Slot.unset).toArray = ls at hl ⊢
  have hl : lv_has ls 4 [(0, .ref a0), (1, .int k1), (2, .int k2)] := hl
  refine W_q (fun QQ hQQ => ?_)
  rw [f_X1_note] at h
  refine lv_aload_n hx hb dX1_note_0 rfl (lv_at hl 0 rfl) ?_
  refine lv_dup hx hb dX1_note_1 rfl ?_
  refine va_get (D := (dC, dI)) (ci := 1) (v := .int y_y.1) (C := RX1) (T := TX1) (N := 4) hx hb hts ifX1_note_X1 hown hK hP 0 rfl rfl 1 (by decide) (hts (.fieldLink RX1 18 "HookPier$Days" "landedMany" "I") (List.mem_of_getElem? (i := 1) rfl)) (fun _ h9 => h9) rfl dX1_note_2 ?_
  refine lv_iload_n hx hb dX1_note_5 rfl (lv_at hl 1 rfl) ?_
  obtain ⟨o6, eo6⟩ : ∃ o, o = f_J6_bitCount_0f7a4 k1 := ⟨_, rfl⟩
  have h := nm_of h o6 eo6
  refine cl_i (wc := []) (wr := ([(a0, .inr (1, [g5, .int y_y.1, .int y_y.2.1, .ref a3])), (a3, .inl (cB6, 6, .inl y_y.2.2))])) (va_runS (As := [.int k1]) (rest := [.int y_y.1, .ref a0]) ⟨hx, hb, hml, hown, hts⟩ (kfJ6_bitCount_0f7a4 l dC dI k1 s.heap.size o6 eo6.symm) (va_cwS 1 hts gfX1_note_0 rfl rfl rfl (by decide +kernel) ⟨(Nat.le_of_ble_eq_true rfl), (Nat.le_of_ble_eq_true rfl)⟩) (PS (hP.sub (ws' := []) [] rfl) (hK.sub (tys' := ([])) [] rfl) (hD.sub (ws' := []) [] (by decide) rfl) hN) rfl rfl hl.1 rfl (lv_room (Nat.le_of_ble_eq_true rfl)) dX1_note_6 ⟨(Nat.le_of_ble_eq_true rfl), (Nat.le_of_ble_eq_true rfl)⟩) hP hD hK hS hA [] [0, 1] rfl rfl (by decide) (by decide) (fun r6 _ H locs hw hP hD _ hS => ?_)
  obtain rfl := hw.symm
  have hP : va_P (dC, dI) vwCl ([(a0, .inr (1, [g5, .int y_y.1, .int y_y.2.1, .ref a3])), (a3, .inl (cB6, 6, .inl y_y.2.2))]) H := hP
  have hD : va_D A ([(a0, .inr (1, [g5, .int y_y.1, .int y_y.2.1, .ref a3])), (a3, .inl (cB6, 6, .inl y_y.2.2))]) := hD
  refine lv_iadd hx hb dX1_note_9 ?_
  refine va_put (D := (dC, dI)) (ci := 1) (v := .int (y_y.1 + o6)) (ty := .int) (C := RX1) (T := TX1) (N := 4) hx hb hts ifX1_note_X1 tyX1 tyX1_ok nmX1 hown hK hP hD hS 0 rfl rfl 1 (by decide) (hts (.fieldLink RX1 18 "HookPier$Days" "landedMany" "I") (List.mem_of_getElem? (i := 1) rfl)) (fun _ h9 => h9) rfl (by decide +kernel) rfl rfl (Nat.le_of_ble_eq_true rfl) dX1_note_10 (fun H locs hP hD hS => ?_)
  have hP : va_P (dC, dI) vwCl ([(a0, .inr (1, [g5, .int (y_y.1 + o6), .int y_y.2.1, .ref a3])), (a3, .inl (cB6, 6, .inl y_y.2.2))]) H := hP
  have hD : va_D A ([(a0, .inr (1, [g5, .int (y_y.1 + o6), .int y_y.2.1, .ref a3])), (a3, .inl (cB6, 6, .inl y_y.2.2))]) := hD
  refine lv_iconst (v := 0) hx hb dX1_note_13 (by decide) ?_
  refine lv_istore_n (lv' := [(3, .int 0), (0, .ref a0), (1, .int k1), (2, .int k2)]) hx hb dX1_note_14 rfl hl (by decide) rfl (fun ls hl => ?_)
  have L15 : ∀ (n15 : Nat) (v15_l3 : Int32) (v15_y_y : TX1_y) (H : Heap) (locs : List Loc) (ls : Array Slot), f_X1_note_L15 k1 k2 n15 v15_l3 v15_y_y = some out → va_P (dC, dI) vwCl ([(a0, .inr (1, [g5, .int v15_y_y.1, .int v15_y_y.2.1, .ref a3])), (a3, .inl (cB6, 6, .inl v15_y_y.2.2))]) H → va_D A ([(a0, .inr (1, [g5, .int v15_y_y.1, .int v15_y_y.2.1, .ref a3])), (a3, .inl (cB6, 6, .inl v15_y_y.2.2))]) → va_S A s.heap H locs → lv_has ls 4 [(3, .int v15_l3), (0, .ref a0), (1, .int k1), (2, .int k2)] → W p l e (headSpec vfX1_note { frames := 1, cells := 0, slots := 0, locals := 20 }).room s m ([.ref a0, .int k1, .int k2]).toArray below meth c H locs 0 0 QQ (F0 m 15 ls []) := by
    intro n15
    induction n15 with
    | zero =>
      intro v15_l3 v15_y_y H locs ls h  _ _ _ _
      rw [f_X1_note_L15] at h
      cases h
    | succ n15 ih15 =>
      intro v15_l3 v15_y_y H locs ls h  hP hD hS hl
      rw [f_X1_note_L15] at h
      refine lv_iload_n hx hb dX1_note_15 rfl (lv_at hl 0 rfl) ?_
      refine lv_aload_n hx hb dX1_note_16 rfl (lv_at hl 1 rfl) ?_
      refine va_get (D := (dC, dI)) (ci := 1) (v := .ref a3) (C := RX1) (T := TX1) (N := 4) hx hb hts ifX1_note_X1 hown hK hP 0 rfl rfl 3 (by decide) (hts (.fieldLink RX1 25 "HookPier$Days" "landedInDay" "[I") (List.mem_of_getElem? (i := 5) rfl)) (fun _ h9 => h9) rfl dX1_note_17 ?_
      refine va_alen (v := 6) hx hb hK hP 1 0 rfl rfl rfl dX1_note_20 ?_
      refine lv_icmp_ge (tgt := 46) hx hb dX1_note_21 (by decide) (fun c21 => ?_) (fun c21 => ?_)
      · have h := (if_pos c21).symm.trans h
        obtain rfl := Option.some.inj h
        have hP9 := hP.sub (ws' := ([(a0, .inr (1, [g5, .int v15_y_y.1, .int v15_y_y.2.1, .ref a3])), (a3, .inl (cB6, 6, .inl v15_y_y.2.2))])) [0, 1] rfl
        have hD9 := hD.sub (ws' := ([(a0, .inr (1, [g5, .int v15_y_y.1, .int v15_y_y.2.1, .ref a3])), (a3, .inl (cB6, 6, .inl v15_y_y.2.2))])) [0, 1] (by decide) rfl
        have hK9 := hK.sub (tys' := []) [] rfl
        rw [hQQ]
        exact W.vret hx hb hr (fun t ht hW => ⟨⟨(), rfl, trivial, by rw [ht]; exact hP9, va_K.moved hW.alike hK9, hD9⟩, hS.F ht⟩) hS.2.2 dX1_note_46
      · have h := (if_neg c21).symm.trans h
        refine lv_iload_n hx hb dX1_note_24 rfl (lv_at hl 2 rfl) ?_
        refine lv_iload_n hx hb dX1_note_25 rfl (lv_at hl 0 rfl) ?_
        refine lv_ishr hx hb dX1_note_26 ?_
        refine lv_iconst (v := 1) hx hb dX1_note_27 (by decide) ?_
        refine lv_iand hx hb dX1_note_28 ?_
        refine lv_iconst (v := 1) hx hb dX1_note_29 (by decide) ?_
        have J40 : ∀ (v40_y_y : TX1_y) (H : Heap) (locs : List Loc) (ls : Array Slot), f_X1_note_J40 (f_X1_note_L15 k1 k2 n15) v15_l3 v40_y_y = some out → va_P (dC, dI) vwCl ([(a0, .inr (1, [g5, .int v40_y_y.1, .int v40_y_y.2.1, .ref a3])), (a3, .inl (cB6, 6, .inl v40_y_y.2.2))]) H → va_D A ([(a0, .inr (1, [g5, .int v40_y_y.1, .int v40_y_y.2.1, .ref a3])), (a3, .inl (cB6, 6, .inl v40_y_y.2.2))]) → va_S A s.heap H locs → lv_has ls 4 [(3, .int v15_l3), (0, .ref a0), (1, .int k1), (2, .int k2)] → W p l e (headSpec vfX1_note { frames := 1, cells := 0, slots := 0, locals := 20 }).room s m ([.ref a0, .int k1, .int k2]).toArray below meth c H locs 0 0 QQ (F0 m 40 ls []) := by
          intro v40_y_y H locs ls h  hP hD hS hl
          rw [f_X1_note_J40] at h
          refine lv_iinc (v := (v15_l3 + (1 : Int32))) (lv' := [(3, .int (v15_l3 + (1 : Int32))), (0, .ref a0), (1, .int k1), (2, .int k2)]) hx hb dX1_note_40 hl (k := 0) rfl rfl (by decide) rfl (fun ls hl => ?_)
          refine lv_goto (tgt := 15) hx hb dX1_note_43 (by decide) ?_
          exact ih15 (v15_l3 + (1 : Int32)) v40_y_y H _ ls h  hP hD hS (lv_sub hl [0, 1, 2, 3] rfl)
        refine lv_icmp_ne (tgt := 40) hx hb dX1_note_30 (by decide) (fun c30 => ?_) (fun c30 => ?_)
        · have h := (if_neg c30).symm.trans h
          exact J40 v15_y_y H _ ls h  hP hD hS (lv_sub hl [0, 1, 2, 3] rfl)
        · have h := (if_pos c30).symm.trans h
          refine lv_aload_n hx hb dX1_note_33 rfl (lv_at hl 1 rfl) ?_
          refine va_get (D := (dC, dI)) (ci := 1) (v := .ref a3) (C := RX1) (T := TX1) (N := 4) hx hb hts ifX1_note_X1 hown hK hP 0 rfl rfl 3 (by decide) (hts (.fieldLink RX1 25 "HookPier$Days" "landedInDay" "[I") (List.mem_of_getElem? (i := 5) rfl)) (fun _ h9 => h9) rfl dX1_note_34 ?_
          refine lv_iload_n hx hb dX1_note_37 rfl (lv_at hl 0 rfl) ?_
          refine lv_iload_n hx hb dX1_note_38 rfl (lv_at hl 3 rfl) ?_
          obtain ⟨hg39, h⟩ := gA_of h
          refine va_iast hx hb hK hP hD hS 1 0 rfl rfl hg39 dX1_note_39 (fun H locs hP hD hS => ?_)
          have hP : va_P (dC, dI) vwCl ([(a0, .inr (1, [g5, .int v15_y_y.1, .int v15_y_y.2.1, .ref a3])), (a3, .inl (cB6, 6, .inl (upd v15_y_y.2.2 (v15_l3).toNatClampNeg k2)))]) H := hP
          have hD : va_D A ([(a0, .inr (1, [g5, .int v15_y_y.1, .int v15_y_y.2.1, .ref a3])), (a3, .inl (cB6, 6, .inl (upd v15_y_y.2.2 (v15_l3).toNatClampNeg k2)))]) := hD
          exact J40 (v15_y_y.1, v15_y_y.2.1, (upd v15_y_y.2.2 (v15_l3).toNatClampNeg k2)) H _ ls h  hP hD hS (lv_sub hl [0, 1, 2, 3] rfl)
  exact L15 FU (0 : Int32) ((y_y.1 + o6), y_y.2) H _ ls h  hP hD hS (lv_sub hl [0, 1, 2, 3] rfl)
theorem dX1_forecast_0 : decode cX1_forecast 0 = .ok (.aload_n 0, 1) := by decide +kernel
theorem dX1_forecast_1 : decode cX1_forecast 1 = .ok (.getfield 12, 3) := by decide +kernel
theorem dX1_forecast_12 : decode cX1_forecast 12 = .ok (.iload_n 3, 1) := by decide +kernel
theorem dX1_forecast_13 : decode cX1_forecast 13 = .ok (.putfield 33, 3) := by decide +kernel
theorem dX1_forecast_16 : decode cX1_forecast 16 = .ok (.aload_n 0, 1) := by decide +kernel
theorem dX1_forecast_17 : decode cX1_forecast 17 = .ok (.iconst 0, 1) := by decide +kernel
theorem dX1_forecast_18 : decode cX1_forecast 18 = .ok (.putfield 18, 3) := by decide +kernel
theorem dX1_forecast_21 : decode cX1_forecast 21 = .ok (.aload_n 0, 1) := by decide +kernel
theorem dX1_forecast_22 : decode cX1_forecast 22 = .ok (.iconst 0, 1) := by decide +kernel
theorem dX1_forecast_23 : decode cX1_forecast 23 = .ok (.putfield 22, 3) := by decide +kernel
theorem dX1_forecast_26 : decode cX1_forecast 26 = .ok (.iconst 0, 1) := by decide +kernel
theorem dX1_forecast_27 : decode cX1_forecast 27 = .ok (.istore 5, 2) := by decide +kernel
theorem dX1_forecast_29 : decode cX1_forecast 29 = .ok (.iload 5, 2) := by decide +kernel
theorem dX1_forecast_31 : decode cX1_forecast 31 = .ok (.aload_n 0, 1) := by decide +kernel
theorem dX1_forecast_32 : decode cX1_forecast 32 = .ok (.getfield 25, 3) := by decide +kernel
theorem dX1_forecast_35 : decode cX1_forecast 35 = .ok (.arraylength, 1) := by decide +kernel
theorem dX1_forecast_36 : decode cX1_forecast 36 = .ok (.if_icmp .ge 17, 3) := by decide +kernel
theorem dX1_forecast_39 : decode cX1_forecast 39 = .ok (.aload_n 0, 1) := by decide +kernel
theorem dX1_forecast_4 : decode cX1_forecast 4 = .ok (.aload_n 2, 1) := by decide +kernel
theorem dX1_forecast_40 : decode cX1_forecast 40 = .ok (.getfield 25, 3) := by decide +kernel
theorem dX1_forecast_43 : decode cX1_forecast 43 = .ok (.iload 5, 2) := by decide +kernel
theorem dX1_forecast_45 : decode cX1_forecast 45 = .ok (.iconst 0, 1) := by decide +kernel
theorem dX1_forecast_46 : decode cX1_forecast 46 = .ok (.iastore, 1) := by decide +kernel
theorem dX1_forecast_47 : decode cX1_forecast 47 = .ok (.iinc 5 1, 3) := by decide +kernel
theorem dX1_forecast_5 : decode cX1_forecast 5 = .ok (.invokevirtual 29, 3) := by decide +kernel
theorem dX1_forecast_50 : decode cX1_forecast 50 = .ok (.goto (-21), 3) := by decide +kernel
theorem dX1_forecast_53 : decode cX1_forecast 53 = .ok (.iconst 1, 1) := by decide +kernel
theorem dX1_forecast_54 : decode cX1_forecast 54 = .ok (.istore 5, 2) := by decide +kernel
theorem dX1_forecast_56 : decode cX1_forecast 56 = .ok (.iload 5, 2) := by decide +kernel
theorem dX1_forecast_58 : decode cX1_forecast 58 = .ok (.iload 4, 2) := by decide +kernel
theorem dX1_forecast_60 : decode cX1_forecast 60 = .ok (.if_icmp .gt 32, 3) := by decide +kernel
theorem dX1_forecast_63 : decode cX1_forecast 63 = .ok (.aload_n 0, 1) := by decide +kernel
theorem dX1_forecast_64 : decode cX1_forecast 64 = .ok (.getfield 12, 3) := by decide +kernel
theorem dX1_forecast_67 : decode cX1_forecast 67 = .ok (.aload_n 2, 1) := by decide +kernel
theorem dX1_forecast_68 : decode cX1_forecast 68 = .ok (.invokevirtual 36, 3) := by decide +kernel
theorem dX1_forecast_71 : decode cX1_forecast 71 = .ok (.aload_n 0, 1) := by decide +kernel
theorem dX1_forecast_72 : decode cX1_forecast 72 = .ok (.aload_n 0, 1) := by decide +kernel
theorem dX1_forecast_73 : decode cX1_forecast 73 = .ok (.aload_n 1, 1) := by decide +kernel
theorem dX1_forecast_74 : decode cX1_forecast 74 = .ok (.aload_n 0, 1) := by decide +kernel
theorem dX1_forecast_75 : decode cX1_forecast 75 = .ok (.getfield 12, 3) := by decide +kernel
theorem dX1_forecast_78 : decode cX1_forecast 78 = .ok (.invokevirtual 39, 3) := by decide +kernel
theorem dX1_forecast_8 : decode cX1_forecast 8 = .ok (.aload_n 0, 1) := by decide +kernel
theorem dX1_forecast_81 : decode cX1_forecast 81 = .ok (.iload 5, 2) := by decide +kernel
theorem dX1_forecast_83 : decode cX1_forecast 83 = .ok (.invokevirtual 43, 3) := by decide +kernel
theorem dX1_forecast_86 : decode cX1_forecast 86 = .ok (.iinc 5 1, 3) := by decide +kernel
theorem dX1_forecast_89 : decode cX1_forecast 89 = .ok (.goto (-33), 3) := by decide +kernel
theorem dX1_forecast_9 : decode cX1_forecast 9 = .ok (.getfield 12, 3) := by decide +kernel
theorem dX1_forecast_92 : decode cX1_forecast 92 = .ok (.return_, 1) := by decide +kernel
def vfX1_forecast : List Cond := List.cons (.code yX1_forecast cX1_forecast 6 none) (apW [.fieldLink RX1 12 "HookPier$Days" "ahead" "LHookPier$Now;", .methodLink RX1 29 yX4_become, .instanceMethod yX4_become, .selects RX4 yX4_become yX4_become, .initialized RX4, .fieldLink RX1 33 "HookPier$Now" "seedNow" "I", .fieldLink RX1 18 "HookPier$Days" "landedMany" "I", .fieldLink RX1 22 "HookPier$Days" "crabTakes" "I", .fieldLink RX1 25 "HookPier$Days" "landedInDay" "[I", .methodLink RX1 36 yX4_letDownAs, .instanceMethod yX4_letDownAs, .selects RX4 yX4_letDownAs yX4_letDownAs, .methodLink RX1 39 yX1_pass, .instanceMethod yX1_pass, .selects RX1 yX1_pass yX1_pass, .initialized RX1, .methodLink RX1 43 yX1_note, .instanceMethod yX1_note, .selects RX1 yX1_note yX1_note] (apW wsX10 (apW wsX40 (apW vfX4_become (apW vfX4_letDownAs (apW vfX1_pass (vfX1_note)))))))
theorem ifX1_forecast_X1 : ∀ w ∈ wsX10, w ∈ vfX1_forecast := fun _ h => (List.mem_cons_of_mem _ (List.mem_append_right _ (List.mem_append_left _ h)))
theorem ifX1_forecast_X4 : ∀ w ∈ wsX40, w ∈ vfX1_forecast := fun _ h => (List.mem_cons_of_mem _ (List.mem_append_right _ (List.mem_append_right _ (List.mem_append_left _ h))))
theorem qfX1_forecast : Good vfX1_forecast := gd_cons (by decide +kernel) (gd_app (gd_dec (by decide +kernel) : Good [.fieldLink RX1 12 "HookPier$Days" "ahead" "LHookPier$Now;", .methodLink RX1 29 yX4_become, .instanceMethod yX4_become, .selects RX4 yX4_become yX4_become, .initialized RX4, .fieldLink RX1 33 "HookPier$Now" "seedNow" "I", .fieldLink RX1 18 "HookPier$Days" "landedMany" "I", .fieldLink RX1 22 "HookPier$Days" "crabTakes" "I", .fieldLink RX1 25 "HookPier$Days" "landedInDay" "[I", .methodLink RX1 36 yX4_letDownAs, .instanceMethod yX4_letDownAs, .selects RX4 yX4_letDownAs yX4_letDownAs, .methodLink RX1 39 yX1_pass, .instanceMethod yX1_pass, .selects RX1 yX1_pass yX1_pass, .initialized RX1, .methodLink RX1 43 yX1_note, .instanceMethod yX1_note, .selects RX1 yX1_note yX1_note]) (gd_app qsX1 (gd_app qsX4 (gd_app qfX4_become (gd_app qfX4_letDownAs (gd_app qfX1_pass qfX1_note))))))
theorem gfX1_forecast_0 : GoodIn vfX1_forecast (wsV RX1 29 RX4 yX4_become vfX4_become) := goodIn_app (goodIn_r [.methodLink RX1 29 yX4_become, .instanceMethod yX4_become, .selects RX4 yX4_become yX4_become, .initialized RX4] [2, 3, 4, 5] rfl (by decide +kernel)) (goodIn_m (fun _ h => (List.mem_cons_of_mem _ (List.mem_append_right _ (List.mem_append_right _ (List.mem_append_right _ (List.mem_append_left _ h)))))) qfX4_become)
theorem gfX1_forecast_1 : GoodIn vfX1_forecast (wsV RX1 36 RX4 yX4_letDownAs vfX4_letDownAs) := goodIn_app (goodIn_r [.methodLink RX1 36 yX4_letDownAs, .instanceMethod yX4_letDownAs, .selects RX4 yX4_letDownAs yX4_letDownAs, .initialized RX4] [10, 11, 12, 5] rfl (by decide +kernel)) (goodIn_m (fun _ h => (List.mem_cons_of_mem _ (List.mem_append_right _ (List.mem_append_right _ (List.mem_append_right _ (List.mem_append_right _ (List.mem_append_left _ h))))))) qfX4_letDownAs)
theorem gfX1_forecast_2 : GoodIn vfX1_forecast (wsV RX1 39 RX1 yX1_pass vfX1_pass) := goodIn_app (goodIn_r [.methodLink RX1 39 yX1_pass, .instanceMethod yX1_pass, .selects RX1 yX1_pass yX1_pass, .initialized RX1] [13, 14, 15, 16] rfl (by decide +kernel)) (goodIn_m (fun _ h => (List.mem_cons_of_mem _ (List.mem_append_right _ (List.mem_append_right _ (List.mem_append_right _ (List.mem_append_right _ (List.mem_append_right _ (List.mem_append_left _ h)))))))) qfX1_pass)
theorem gfX1_forecast_3 : GoodIn vfX1_forecast (wsV RX1 43 RX1 yX1_note vfX1_note) := goodIn_app (goodIn_r [.methodLink RX1 43 yX1_note, .instanceMethod yX1_note, .selects RX1 yX1_note yX1_note, .initialized RX1] [17, 18, 19, 16] rfl (by decide +kernel)) (goodIn_m (fun _ h => (List.mem_cons_of_mem _ (List.mem_append_right _ (List.mem_append_right _ (List.mem_append_right _ (List.mem_append_right _ (List.mem_append_right _ (List.mem_append_right _ h)))))))) qfX1_note)
set_option maxHeartbeats 2000000 in
set_option maxRecDepth 100000 in
theorem kfX1_forecast (l : Launch) (dC : Nat → ClassId) (dI : Nat → Nat → Nat) (a0 : Nat) (a1 : Nat) (a2 : Nat) (k3 : Int32) (k4 : Int32) (a5 : Nat) (a6 : Nat) (up : Nat → Nat) (kp : Nat → ClassId) (un : Nat → Nat) (kn : Nat → ClassId) (un2 : Nat → Nat) (kn2 : Nat → ClassId) (y_y : TX1_y) (p_p : TX6_p) (n_n : TX4_n) (n2_n : TX4_n) (cB17 : ClassId) (sz : Nat) (out : (TX1_y × TX4_n)) (h : f_X1_forecast k3 k4 y_y p_p n_n n2_n = some out) : Met l yX1_forecast vfX1_forecast ({ frames := 5, cells := 0, slots := 0, locals := 118 }) (PC (dC, dI) [.ref a0, .ref a1, .ref a2, .int k3, .int k4] sz ((a0, .inr (1, [.ref a5, .int y_y.1, .int y_y.2.1, .ref a6])) :: bX6 a1 up kp p_p (bX4 a2 un kn n_n (bX4 a5 un2 kn2 n2_n ([(a6, .inl (cB17, 6, .inl y_y.2.2))])))) (tX6 kp (tX4 kn (tX4 kn2 ((cB17, .int) :: []))))) (va_Qv (S := Unit) (fun _ => True) (fun _ t => BC (dC, dI) (va_A ((a0, .inr (1, [.ref a5, .int y_y.1, .int y_y.2.1, .ref a6])) :: bX6 a1 up kp p_p (bX4 a2 un kn n_n (bX4 a5 un2 kn2 n2_n ([(a6, .inl (cB17, 6, .inl y_y.2.2))])))) sz) ((a0, .inr (1, [.ref a5, .int out.1.1, .int out.1.2.1, .ref a6])) :: bX6 a1 up kp p_p (bX4 a2 un kn n_n (bX4 a5 un2 kn2 out.2 ([(a6, .inl (cB17, 6, .inl out.1.2.2))])))) [] t) (va_A ((a0, .inr (1, [.ref a5, .int y_y.1, .int y_y.2.1, .ref a6])) :: bX6 a1 up kp p_p (bX4 a2 un kn n_n (bX4 a5 un2 kn2 n2_n ([(a6, .inl (cB17, 6, .inl y_y.2.2))])))) sz)) 0 0 (va_A ((a0, .inr (1, [.ref a5, .int y_y.1, .int y_y.2.1, .ref a6])) :: bX6 a1 up kp p_p (bX4 a2 un kn n_n (bX4 a5 un2 kn2 n2_n ([(a6, .inl (cB17, 6, .inl y_y.2.2))])))) sz) := by
  refine Met.ofW (cc := cX1_forecast) (maxL := 6) (ret := none) (by decide) rfl ?_
  intro p e s m args below meth c s₁ B0 hml hv
  obtain ⟨rfl, hsz, hP, hK, hD0, hN⟩ := hv
  have hx := B0.exec
  have hb := B0.bytes
  have hr := B0.returns
  have hts := atoms_spec (ws := vfX1_forecast) B0.pre
  have hown : s.vm.findClass RX1 = some m.cls := findClass_of_methodNamed B0.named
  have hlocks := B0.notSynchronized
  subst hsz
  have hD := hD0.self (sz := s.heap.size)
  generalize hAe : va_A ((a0, .inr (1, [.ref a5, .int y_y.1, .int y_y.2.1, .ref a6])) :: bX6 a1 up kp p_p (bX4 a2 un kn n_n (bX4 a5 un2 kn2 n2_n ([(a6, .inl (cB17, 6, .inl y_y.2.2))])))) s.heap.size = A at hD ⊢
  have hA : ∀ q : Nat, s.heap.size ≤ q → A q := fun q h => by rw [← hAe]; exact Or.inr h
  have hS : va_S A s.heap s.heap [] := va_S.rf
  have hP : va_P (dC, dI) vwCl ((a0, .inr (1, [.ref a5, .int y_y.1, .int y_y.2.1, .ref a6])) :: bX6 a1 up kp p_p (bX4 a2 un kn n_n (bX4 a5 un2 kn2 n2_n ([(a6, .inl (cB17, 6, .inl y_y.2.2))])))) s.heap := hP
  have hl := lv_entry ([.ref a0, .ref a1, .ref a2, .int k3, .int k4]) (n := 6) (Nat.le_of_ble_eq_true rfl)
  rw [lg_entry_eq]
  generalize (lg_sl ([.ref a0, .ref a1, .ref a2, .int k3, .int k4]) ++ List.replicate (6 - (lg_sl ([.ref a0, .ref a1, .ref a2, .int k3, .int k4])).length) Slot.unset).toArray = ls at hl ⊢
  have hl : lv_has ls 6 [(0, .ref a0), (1, .ref a1), (2, .ref a2), (3, .int k3), (4, .int k4)] := hl
  refine W_q (fun QQ hQQ => ?_)
  rw [f_X1_forecast] at h
  refine lv_aload_n hx hb dX1_forecast_0 rfl (lv_at hl 0 rfl) ?_
  refine va_get (D := (dC, dI)) (ci := 1) (v := .ref a5) (C := RX1) (T := TX1) (N := 4) hx hb hts ifX1_forecast_X1 hown hK hP 0 rfl rfl 0 (by decide) (hts (.fieldLink RX1 12 "HookPier$Days" "ahead" "LHookPier$Now;") (List.mem_of_getElem? (i := 1) rfl)) (fun _ h9 => h9) rfl dX1_forecast_1 ?_
  refine lv_aload_n hx hb dX1_forecast_4 rfl (lv_at hl 2 rfl) ?_
  obtain ⟨o5, eo5⟩ : ∃ o, o = f_X4_become n2_n n_n := ⟨_, rfl⟩
  have h := nm_of h o5 eo5
  refine cl_v (wc := (bX4 a5 un2 kn2 n2_n (bX4 a2 un kn n_n []))) (wr := ((a0, .inr (1, [.ref a5, .int y_y.1, .int y_y.2.1, .ref a6])) :: bX6 a1 up kp p_p ([(a6, .inl (cB17, 6, .inl y_y.2.2))]))) (va_runV (As := [.ref a2]) (rest := []) ⟨hx, hb, hml, hown, hts⟩ (kfX4_become l dC dI a5 a2 un2 kn2 un kn n2_n n_n s.heap.size o5 eo5.symm) (cwV 1 hts gfX1_forecast_0 rfl rfl rfl (by decide +kernel) ⟨(Nat.le_of_ble_eq_true rfl), (Nat.le_of_ble_eq_true rfl)⟩) (PV (hP.sub (ws' := (bX4 a5 un2 kn2 n2_n (bX4 a2 un kn n_n []))) [16, 17, 18, 19, 20, 11, 12, 13, 14, 15] rfl) (hK.sub (tys' := (tX4 kn2 (tX4 kn ([])))) [13, 14, 15, 16, 9, 10, 11, 12] rfl) (hD.sub (ws' := (bX4 a5 un2 kn2 n2_n (bX4 a2 un kn n_n []))) [16, 17, 18, 19, 20, 11, 12, 13, 14, 15] (by decide) rfl) hN 0 rfl rfl) rfl rfl hl.1 rfl (lv_room (Nat.le_of_ble_eq_true rfl)) dX1_forecast_5 ⟨(Nat.le_of_ble_eq_true rfl), (Nat.le_of_ble_eq_true rfl)⟩) hP hD hK hS hA [16, 17, 18, 19, 20, 11, 12, 13, 14, 15] [0, 1, 2, 3, 4, 5, 6, 7, 8, 9, 10, 21] rfl rfl (by decide) (by decide) (fun _ H locs hw hP hD _ hS => ?_)
  have hP : va_P (dC, dI) vwCl ((a0, .inr (1, [.ref a5, .int y_y.1, .int y_y.2.1, .ref a6])) :: bX6 a1 up kp p_p ((a6, .inl (cB17, 6, .inl y_y.2.2)) :: bX4 a5 un2 kn2 o5 (bX4 a2 un kn n_n []))) H := hP
  have hD : va_D A ((a0, .inr (1, [.ref a5, .int y_y.1, .int y_y.2.1, .ref a6])) :: bX6 a1 up kp p_p ((a6, .inl (cB17, 6, .inl y_y.2.2)) :: bX4 a5 un2 kn2 o5 (bX4 a2 un kn n_n []))) := hD
  refine lv_aload_n hx hb dX1_forecast_8 rfl (lv_at hl 0 rfl) ?_
  refine va_get (D := (dC, dI)) (ci := 1) (v := .ref a5) (C := RX1) (T := TX1) (N := 4) hx hb hts ifX1_forecast_X1 hown hK hP 0 rfl rfl 0 (by decide) (hts (.fieldLink RX1 12 "HookPier$Days" "ahead" "LHookPier$Now;") (List.mem_of_getElem? (i := 1) rfl)) (fun _ h9 => h9) rfl dX1_forecast_9 ?_
  refine lv_iload_n hx hb dX1_forecast_12 rfl (lv_at hl 3 rfl) ?_
  refine va_put (D := (dC, dI)) (ci := 3) (v := .int k3) (ty := .int) (C := RX4) (T := TX4) (N := 7) hx hb hts ifX1_forecast_X4 tyX4 tyX4_ok nmX4 hown hK hP hD hS 12 rfl rfl 1 (by decide) (hts (.fieldLink RX1 33 "HookPier$Now" "seedNow" "I") (List.mem_of_getElem? (i := 6) rfl)) (fun _ h9 => h9) rfl (by decide +kernel) rfl rfl (Nat.le_of_ble_eq_true rfl) dX1_forecast_13 (fun H locs hP hD hS => ?_)
  have hP : va_P (dC, dI) vwCl ((a0, .inr (1, [.ref a5, .int y_y.1, .int y_y.2.1, .ref a6])) :: bX6 a1 up kp p_p ((a6, .inl (cB17, 6, .inl y_y.2.2)) :: bX4 a5 un2 kn2 (o5.1, k3, o5.2.2) (bX4 a2 un kn n_n []))) H := hP
  have hD : va_D A ((a0, .inr (1, [.ref a5, .int y_y.1, .int y_y.2.1, .ref a6])) :: bX6 a1 up kp p_p ((a6, .inl (cB17, 6, .inl y_y.2.2)) :: bX4 a5 un2 kn2 (o5.1, k3, o5.2.2) (bX4 a2 un kn n_n []))) := hD
  refine lv_aload_n hx hb dX1_forecast_16 rfl (lv_at hl 0 rfl) ?_
  refine lv_iconst (v := 0) hx hb dX1_forecast_17 (by decide) ?_
  refine va_put (D := (dC, dI)) (ci := 1) (v := .int 0) (ty := .int) (C := RX1) (T := TX1) (N := 4) hx hb hts ifX1_forecast_X1 tyX1 tyX1_ok nmX1 hown hK hP hD hS 0 rfl rfl 1 (by decide) (hts (.fieldLink RX1 18 "HookPier$Days" "landedMany" "I") (List.mem_of_getElem? (i := 7) rfl)) (fun _ h9 => h9) rfl (by decide +kernel) rfl rfl (Nat.le_of_ble_eq_true rfl) dX1_forecast_18 (fun H locs hP hD hS => ?_)
  have hP : va_P (dC, dI) vwCl ((a0, .inr (1, [.ref a5, .int 0, .int y_y.2.1, .ref a6])) :: bX6 a1 up kp p_p ((a6, .inl (cB17, 6, .inl y_y.2.2)) :: bX4 a5 un2 kn2 (o5.1, k3, o5.2.2) (bX4 a2 un kn n_n []))) H := hP
  have hD : va_D A ((a0, .inr (1, [.ref a5, .int 0, .int y_y.2.1, .ref a6])) :: bX6 a1 up kp p_p ((a6, .inl (cB17, 6, .inl y_y.2.2)) :: bX4 a5 un2 kn2 (o5.1, k3, o5.2.2) (bX4 a2 un kn n_n []))) := hD
  refine lv_aload_n hx hb dX1_forecast_21 rfl (lv_at hl 0 rfl) ?_
  refine lv_iconst (v := 0) hx hb dX1_forecast_22 (by decide) ?_
  refine va_put (D := (dC, dI)) (ci := 1) (v := .int 0) (ty := .int) (C := RX1) (T := TX1) (N := 4) hx hb hts ifX1_forecast_X1 tyX1 tyX1_ok nmX1 hown hK hP hD hS 0 rfl rfl 2 (by decide) (hts (.fieldLink RX1 22 "HookPier$Days" "crabTakes" "I") (List.mem_of_getElem? (i := 8) rfl)) (fun _ h9 => h9) rfl (by decide +kernel) rfl rfl (Nat.le_of_ble_eq_true rfl) dX1_forecast_23 (fun H locs hP hD hS => ?_)
  have hP : va_P (dC, dI) vwCl ((a0, .inr (1, [.ref a5, .int 0, .int 0, .ref a6])) :: bX6 a1 up kp p_p ((a6, .inl (cB17, 6, .inl y_y.2.2)) :: bX4 a5 un2 kn2 (o5.1, k3, o5.2.2) (bX4 a2 un kn n_n []))) H := hP
  have hD : va_D A ((a0, .inr (1, [.ref a5, .int 0, .int 0, .ref a6])) :: bX6 a1 up kp p_p ((a6, .inl (cB17, 6, .inl y_y.2.2)) :: bX4 a5 un2 kn2 (o5.1, k3, o5.2.2) (bX4 a2 un kn n_n []))) := hD
  refine lv_iconst (v := 0) hx hb dX1_forecast_26 (by decide) ?_
  refine lv_istore (lv' := [(5, .int 0), (0, .ref a0), (1, .ref a1), (2, .ref a2), (3, .int k3), (4, .int k4)]) hx hb dX1_forecast_27 hl (by decide) rfl (fun ls hl => ?_)
  have L29 : ∀ (n29 : Nat) (v29_l5 : Int32) (v29_y_y : TX1_y) (H : Heap) (locs : List Loc) (ls : Array Slot), f_X1_forecast_L29 k3 k4 p_p n_n o5 n29 v29_l5 v29_y_y = some out → va_P (dC, dI) vwCl ((a0, .inr (1, [.ref a5, .int v29_y_y.1, .int v29_y_y.2.1, .ref a6])) :: bX6 a1 up kp p_p ((a6, .inl (cB17, 6, .inl v29_y_y.2.2)) :: bX4 a5 un2 kn2 (o5.1, k3, o5.2.2) (bX4 a2 un kn n_n []))) H → va_D A ((a0, .inr (1, [.ref a5, .int v29_y_y.1, .int v29_y_y.2.1, .ref a6])) :: bX6 a1 up kp p_p ((a6, .inl (cB17, 6, .inl v29_y_y.2.2)) :: bX4 a5 un2 kn2 (o5.1, k3, o5.2.2) (bX4 a2 un kn n_n []))) → va_S A s.heap H locs → lv_has ls 6 [(5, .int v29_l5), (0, .ref a0), (1, .ref a1), (2, .ref a2), (4, .int k4)] → W p l e (headSpec vfX1_forecast { frames := 5, cells := 0, slots := 0, locals := 118 }).room s m ([.ref a0, .ref a1, .ref a2, .int k3, .int k4]).toArray below meth c H locs 0 0 QQ (F0 m 29 ls []) := by
    intro n29
    induction n29 with
    | zero =>
      intro v29_l5 v29_y_y H locs ls h  _ _ _ _
      rw [f_X1_forecast_L29] at h
      cases h
    | succ n29 ih29 =>
      intro v29_l5 v29_y_y H locs ls h  hP hD hS hl
      rw [f_X1_forecast_L29] at h
      refine lv_iload hx hb dX1_forecast_29 (lv_at hl 0 rfl) ?_
      refine lv_aload_n hx hb dX1_forecast_31 rfl (lv_at hl 1 rfl) ?_
      refine va_get (D := (dC, dI)) (ci := 1) (v := .ref a6) (C := RX1) (T := TX1) (N := 4) hx hb hts ifX1_forecast_X1 hown hK hP 0 rfl rfl 3 (by decide) (hts (.fieldLink RX1 25 "HookPier$Days" "landedInDay" "[I") (List.mem_of_getElem? (i := 9) rfl)) (fun _ h9 => h9) rfl dX1_forecast_32 ?_
      refine va_alen (v := 6) hx hb hK hP 11 17 rfl rfl rfl dX1_forecast_35 ?_
      refine lv_icmp_ge (tgt := 53) hx hb dX1_forecast_36 (by decide) (fun c36 => ?_) (fun c36 => ?_)
      · have h := (if_pos c36).symm.trans h
        refine lv_iconst (v := 1) hx hb dX1_forecast_53 (by decide) ?_
        refine lv_istore (lv' := [(5, .int 1), (0, .ref a0), (1, .ref a1), (2, .ref a2), (4, .int k4)]) hx hb dX1_forecast_54 hl (by decide) rfl (fun ls hl => ?_)
        have L56 : ∀ (n56 : Nat) (v56_l5 : Int32) (v56_y_y : TX1_y) (v56_n2_n : TX4_n) (H : Heap) (locs : List Loc) (ls : Array Slot), f_X1_forecast_L56 k4 p_p n_n n56 v56_l5 v56_y_y v56_n2_n = some out → va_P (dC, dI) vwCl ((a0, .inr (1, [.ref a5, .int v56_y_y.1, .int v56_y_y.2.1, .ref a6])) :: bX6 a1 up kp p_p ((a6, .inl (cB17, 6, .inl v56_y_y.2.2)) :: bX4 a5 un2 kn2 v56_n2_n (bX4 a2 un kn n_n []))) H → va_D A ((a0, .inr (1, [.ref a5, .int v56_y_y.1, .int v56_y_y.2.1, .ref a6])) :: bX6 a1 up kp p_p ((a6, .inl (cB17, 6, .inl v56_y_y.2.2)) :: bX4 a5 un2 kn2 v56_n2_n (bX4 a2 un kn n_n []))) → va_S A s.heap H locs → lv_has ls 6 [(5, .int v56_l5), (0, .ref a0), (1, .ref a1), (2, .ref a2), (4, .int k4)] → W p l e (headSpec vfX1_forecast { frames := 5, cells := 0, slots := 0, locals := 118 }).room s m ([.ref a0, .ref a1, .ref a2, .int k3, .int k4]).toArray below meth c H locs 0 0 QQ (F0 m 56 ls []) := by
          intro n56
          induction n56 with
          | zero =>
            intro v56_l5 v56_y_y v56_n2_n H locs ls h  _ _ _ _
            rw [f_X1_forecast_L56] at h
            cases h
          | succ n56 ih56 =>
            intro v56_l5 v56_y_y v56_n2_n H locs ls h  hP hD hS hl
            rw [f_X1_forecast_L56] at h
            refine lv_iload hx hb dX1_forecast_56 (lv_at hl 0 rfl) ?_
            refine lv_iload hx hb dX1_forecast_58 (lv_at hl 4 rfl) ?_
            refine lv_icmp_gt (tgt := 92) hx hb dX1_forecast_60 (by decide) (fun c60 => ?_) (fun c60 => ?_)
            · have h := (if_pos c60).symm.trans h
              obtain rfl := Option.some.inj h
              have hP9 := hP.sub (ws' := ((a0, .inr (1, [.ref a5, .int v56_y_y.1, .int v56_y_y.2.1, .ref a6])) :: bX6 a1 up kp p_p (bX4 a2 un kn n_n (bX4 a5 un2 kn2 v56_n2_n ([(a6, .inl (cB17, 6, .inl v56_y_y.2.2))]))))) [0, 1, 2, 3, 4, 5, 6, 7, 8, 9, 10, 17, 18, 19, 20, 21, 12, 13, 14, 15, 16, 11] rfl
              have hD9 := hD.sub (ws' := ((a0, .inr (1, [.ref a5, .int v56_y_y.1, .int v56_y_y.2.1, .ref a6])) :: bX6 a1 up kp p_p (bX4 a2 un kn n_n (bX4 a5 un2 kn2 v56_n2_n ([(a6, .inl (cB17, 6, .inl v56_y_y.2.2))]))))) [0, 1, 2, 3, 4, 5, 6, 7, 8, 9, 10, 17, 18, 19, 20, 21, 12, 13, 14, 15, 16, 11] (by decide) rfl
              have hK9 := hK.sub (tys' := []) [] rfl
              rw [hQQ]
              exact W.vret hx hb hr (fun t ht hW => ⟨⟨(), rfl, trivial, by rw [ht]; exact hP9, va_K.moved hW.alike hK9, hD9⟩, hS.F ht⟩) hS.2.2 dX1_forecast_92
            · have h := (if_neg c60).symm.trans h
              refine lv_aload_n hx hb dX1_forecast_63 rfl (lv_at hl 1 rfl) ?_
              refine va_get (D := (dC, dI)) (ci := 1) (v := .ref a5) (C := RX1) (T := TX1) (N := 4) hx hb hts ifX1_forecast_X1 hown hK hP 0 rfl rfl 0 (by decide) (hts (.fieldLink RX1 12 "HookPier$Days" "ahead" "LHookPier$Now;") (List.mem_of_getElem? (i := 1) rfl)) (fun _ h9 => h9) rfl dX1_forecast_64 ?_
              refine lv_aload_n hx hb dX1_forecast_67 rfl (lv_at hl 3 rfl) ?_
              obtain ⟨o68, eo68⟩ : ∃ o, o = f_X4_letDownAs v56_n2_n n_n := ⟨_, rfl⟩
              have h := nm_of h o68 eo68
              refine cl_v (wc := (bX4 a5 un2 kn2 v56_n2_n (bX4 a2 un kn n_n []))) (wr := ((a0, .inr (1, [.ref a5, .int v56_y_y.1, .int v56_y_y.2.1, .ref a6])) :: bX6 a1 up kp p_p ([(a6, .inl (cB17, 6, .inl v56_y_y.2.2))]))) (va_runV (As := [.ref a2]) (rest := []) ⟨hx, hb, hml, hown, hts⟩ (kfX4_letDownAs l dC dI a5 a2 un2 kn2 un kn v56_n2_n n_n H.size o68 eo68.symm) (cwV 1 hts gfX1_forecast_1 rfl rfl rfl (by decide +kernel) ⟨(Nat.le_of_ble_eq_true rfl), (Nat.le_of_ble_eq_true rfl)⟩) (PV (hP.sub (ws' := (bX4 a5 un2 kn2 v56_n2_n (bX4 a2 un kn n_n []))) [12, 13, 14, 15, 16, 17, 18, 19, 20, 21] rfl) (hK.sub (tys' := (tX4 kn2 (tX4 kn ([])))) [13, 14, 15, 16, 9, 10, 11, 12] rfl) (hD.sub (ws' := (bX4 a5 un2 kn2 v56_n2_n (bX4 a2 un kn n_n []))) [12, 13, 14, 15, 16, 17, 18, 19, 20, 21] (by decide) rfl) hN 0 rfl rfl) rfl rfl hl.1 rfl (lv_room (Nat.le_of_ble_eq_true rfl)) dX1_forecast_68 ⟨(Nat.le_of_ble_eq_true rfl), (Nat.le_of_ble_eq_true rfl)⟩) hP hD hK hS hA [12, 13, 14, 15, 16, 17, 18, 19, 20, 21] [0, 1, 2, 3, 4, 5, 6, 7, 8, 9, 10, 11] rfl rfl (by decide) (by decide) (fun _ H locs hw hP hD _ hS => ?_)
              have hP : va_P (dC, dI) vwCl ((a0, .inr (1, [.ref a5, .int v56_y_y.1, .int v56_y_y.2.1, .ref a6])) :: bX6 a1 up kp p_p ((a6, .inl (cB17, 6, .inl v56_y_y.2.2)) :: bX4 a5 un2 kn2 o68 (bX4 a2 un kn n_n []))) H := hP
              have hD : va_D A ((a0, .inr (1, [.ref a5, .int v56_y_y.1, .int v56_y_y.2.1, .ref a6])) :: bX6 a1 up kp p_p ((a6, .inl (cB17, 6, .inl v56_y_y.2.2)) :: bX4 a5 un2 kn2 o68 (bX4 a2 un kn n_n []))) := hD
              refine lv_aload_n hx hb dX1_forecast_71 rfl (lv_at hl 1 rfl) ?_
              refine lv_aload_n hx hb dX1_forecast_72 rfl (lv_at hl 1 rfl) ?_
              refine lv_aload_n hx hb dX1_forecast_73 rfl (lv_at hl 2 rfl) ?_
              refine lv_aload_n hx hb dX1_forecast_74 rfl (lv_at hl 1 rfl) ?_
              refine va_get (D := (dC, dI)) (ci := 1) (v := .ref a5) (C := RX1) (T := TX1) (N := 4) hx hb hts ifX1_forecast_X1 hown hK hP 0 rfl rfl 0 (by decide) (hts (.fieldLink RX1 12 "HookPier$Days" "ahead" "LHookPier$Now;") (List.mem_of_getElem? (i := 1) rfl)) (fun _ h9 => h9) rfl dX1_forecast_75 ?_
              obtain ⟨o78, eo78, h⟩ := bd_of h
              refine cl_i (wc := ((a0, .inr (1, [.ref a5, .int v56_y_y.1, .int v56_y_y.2.1, .ref a6])) :: bX6 a1 up kp p_p (bX4 a5 un2 kn2 o68 ([(a6, .inl (cB17, 6, .inl v56_y_y.2.2))])))) (wr := (bX4 a2 un kn n_n [])) (va_runV (As := [.ref a1, .ref a5]) (rest := [.ref a0]) ⟨hx, hb, hml, hown, hts⟩ (kfX1_pass l dC dI a0 a1 a5 a6 up kp un2 kn2 v56_y_y (.ref a5) p_p o68 cB17 H.size o78 eo78) (cwV 2 hts gfX1_forecast_2 rfl rfl rfl (by decide +kernel) ⟨(Nat.le_of_ble_eq_true rfl), (Nat.le_of_ble_eq_true rfl)⟩) (PV (hP.sub (ws' := ((a0, .inr (1, [.ref a5, .int v56_y_y.1, .int v56_y_y.2.1, .ref a6])) :: bX6 a1 up kp p_p (bX4 a5 un2 kn2 o68 ([(a6, .inl (cB17, 6, .inl v56_y_y.2.2))])))) [0, 1, 2, 3, 4, 5, 6, 7, 8, 9, 10, 12, 13, 14, 15, 16, 11] rfl) (hK.sub (tys' := (tX6 kp (tX4 kn2 ((cB17, .int) :: [])))) [0, 1, 2, 3, 4, 5, 6, 7, 8, 13, 14, 15, 16, 17] rfl) (hD.sub (ws' := ((a0, .inr (1, [.ref a5, .int v56_y_y.1, .int v56_y_y.2.1, .ref a6])) :: bX6 a1 up kp p_p (bX4 a5 un2 kn2 o68 ([(a6, .inl (cB17, 6, .inl v56_y_y.2.2))])))) [0, 1, 2, 3, 4, 5, 6, 7, 8, 9, 10, 12, 13, 14, 15, 16, 11] (by decide) rfl) hN 0 rfl rfl) rfl rfl hl.1 rfl (lv_room (Nat.le_of_ble_eq_true rfl)) dX1_forecast_78 ⟨(Nat.le_of_ble_eq_true rfl), (Nat.le_of_ble_eq_true rfl)⟩) hP hD hK hS hA [0, 1, 2, 3, 4, 5, 6, 7, 8, 9, 10, 12, 13, 14, 15, 16, 11] [17, 18, 19, 20, 21] rfl rfl (by decide) (by decide) (fun r78 _ H locs hw hP hD _ hS => ?_)
              obtain rfl := hw
              have hP : va_P (dC, dI) vwCl (bX4 a2 un kn n_n ((a0, .inr (1, [.ref a5, .int o78.2.1.1, .int o78.2.1.2.1, .ref a6])) :: bX6 a1 up kp p_p (bX4 a5 un2 kn2 o78.2.2 ([(a6, .inl (cB17, 6, .inl o78.2.1.2.2))])))) H := hP
              have hD : va_D A (bX4 a2 un kn n_n ((a0, .inr (1, [.ref a5, .int o78.2.1.1, .int o78.2.1.2.1, .ref a6])) :: bX6 a1 up kp p_p (bX4 a5 un2 kn2 o78.2.2 ([(a6, .inl (cB17, 6, .inl o78.2.1.2.2))])))) := hD
              refine lv_iload hx hb dX1_forecast_81 (lv_at hl 0 rfl) ?_
              obtain ⟨o83, eo83, h⟩ := bd_of h
              refine cl_v (wc := ([(a0, .inr (1, [.ref a5, .int o78.2.1.1, .int o78.2.1.2.1, .ref a6])), (a6, .inl (cB17, 6, .inl o78.2.1.2.2))])) (wr := (bX4 a2 un kn n_n (bX6 a1 up kp p_p (bX4 a5 un2 kn2 o78.2.2 [])))) (va_runV (As := [.int o78.1, .int v56_l5]) (rest := []) ⟨hx, hb, hml, hown, hts⟩ (kfX1_note l dC dI a0 o78.1 v56_l5 a6 o78.2.1 (.ref a5) cB17 H.size o83 eo83) (cwV 2 hts gfX1_forecast_3 rfl rfl rfl (by decide +kernel) ⟨(Nat.le_of_ble_eq_true rfl), (Nat.le_of_ble_eq_true rfl)⟩) (PV (hP.sub (ws' := ([(a0, .inr (1, [.ref a5, .int o78.2.1.1, .int o78.2.1.2.1, .ref a6])), (a6, .inl (cB17, 6, .inl o78.2.1.2.2))])) [5, 21] rfl) (hK.sub (tys' := ((cB17, .int) :: [])) [17] rfl) (hD.sub (ws' := ([(a0, .inr (1, [.ref a5, .int o78.2.1.1, .int o78.2.1.2.1, .ref a6])), (a6, .inl (cB17, 6, .inl o78.2.1.2.2))])) [5, 21] (by decide) rfl) hN 0 rfl rfl) rfl rfl hl.1 rfl (lv_room (Nat.le_of_ble_eq_true rfl)) dX1_forecast_83 ⟨(Nat.le_of_ble_eq_true rfl), (Nat.le_of_ble_eq_true rfl)⟩) hP hD hK hS hA [5, 21] [0, 1, 2, 3, 4, 6, 7, 8, 9, 10, 11, 12, 13, 14, 15, 16, 17, 18, 19, 20] rfl rfl (by decide) (by decide) (fun _ H locs hw hP hD _ hS => ?_)
              have hP : va_P (dC, dI) vwCl (bX4 a2 un kn n_n (bX6 a1 up kp p_p (bX4 a5 un2 kn2 o78.2.2 ([(a0, .inr (1, [.ref a5, .int o83.1, .int o83.2.1, .ref a6])), (a6, .inl (cB17, 6, .inl o83.2.2))])))) H := hP
              have hD : va_D A (bX4 a2 un kn n_n (bX6 a1 up kp p_p (bX4 a5 un2 kn2 o78.2.2 ([(a0, .inr (1, [.ref a5, .int o83.1, .int o83.2.1, .ref a6])), (a6, .inl (cB17, 6, .inl o83.2.2))])))) := hD
              refine lv_iinc (v := (v56_l5 + (1 : Int32))) (lv' := [(5, .int (v56_l5 + (1 : Int32))), (0, .ref a0), (1, .ref a1), (2, .ref a2), (4, .int k4)]) hx hb dX1_forecast_86 hl (k := 0) rfl rfl (by decide) rfl (fun ls hl => ?_)
              refine lv_goto (tgt := 56) hx hb dX1_forecast_89 (by decide) ?_
              exact ih56 (v56_l5 + (1 : Int32)) o83 o78.2.2 H _ ls h  (hP.sub (ws' := ((a0, .inr (1, [.ref a5, .int o83.1, .int o83.2.1, .ref a6])) :: bX6 a1 up kp p_p ((a6, .inl (cB17, 6, .inl o83.2.2)) :: bX4 a5 un2 kn2 o78.2.2 (bX4 a2 un kn n_n [])))) [20, 5, 6, 7, 8, 9, 10, 11, 12, 13, 14, 21, 15, 16, 17, 18, 19, 0, 1, 2, 3, 4] rfl) (hD.sub (ws' := ((a0, .inr (1, [.ref a5, .int o83.1, .int o83.2.1, .ref a6])) :: bX6 a1 up kp p_p ((a6, .inl (cB17, 6, .inl o83.2.2)) :: bX4 a5 un2 kn2 o78.2.2 (bX4 a2 un kn n_n [])))) [20, 5, 6, 7, 8, 9, 10, 11, 12, 13, 14, 21, 15, 16, 17, 18, 19, 0, 1, 2, 3, 4] (by decide) rfl) hS (lv_sub hl [0, 1, 2, 3, 4] rfl)
        exact L56 FU (1 : Int32) v29_y_y (o5.1, k3, o5.2.2) H _ ls h  hP hD hS (lv_sub hl [0, 1, 2, 3, 4] rfl)
      · have h := (if_neg c36).symm.trans h
        refine lv_aload_n hx hb dX1_forecast_39 rfl (lv_at hl 1 rfl) ?_
        refine va_get (D := (dC, dI)) (ci := 1) (v := .ref a6) (C := RX1) (T := TX1) (N := 4) hx hb hts ifX1_forecast_X1 hown hK hP 0 rfl rfl 3 (by decide) (hts (.fieldLink RX1 25 "HookPier$Days" "landedInDay" "[I") (List.mem_of_getElem? (i := 9) rfl)) (fun _ h9 => h9) rfl dX1_forecast_40 ?_
        refine lv_iload hx hb dX1_forecast_43 (lv_at hl 0 rfl) ?_
        refine lv_iconst (v := 0) hx hb dX1_forecast_45 (by decide) ?_
        obtain ⟨hg46, h⟩ := gA_of h
        refine va_iast hx hb hK hP hD hS 11 17 rfl rfl hg46 dX1_forecast_46 (fun H locs hP hD hS => ?_)
        have hP : va_P (dC, dI) vwCl ((a0, .inr (1, [.ref a5, .int v29_y_y.1, .int v29_y_y.2.1, .ref a6])) :: bX6 a1 up kp p_p ((a6, .inl (cB17, 6, .inl (upd v29_y_y.2.2 (v29_l5).toNatClampNeg (0 : Int32)))) :: bX4 a5 un2 kn2 (o5.1, k3, o5.2.2) (bX4 a2 un kn n_n []))) H := hP
        have hD : va_D A ((a0, .inr (1, [.ref a5, .int v29_y_y.1, .int v29_y_y.2.1, .ref a6])) :: bX6 a1 up kp p_p ((a6, .inl (cB17, 6, .inl (upd v29_y_y.2.2 (v29_l5).toNatClampNeg (0 : Int32)))) :: bX4 a5 un2 kn2 (o5.1, k3, o5.2.2) (bX4 a2 un kn n_n []))) := hD
        refine lv_iinc (v := (v29_l5 + (1 : Int32))) (lv' := [(5, .int (v29_l5 + (1 : Int32))), (0, .ref a0), (1, .ref a1), (2, .ref a2), (4, .int k4)]) hx hb dX1_forecast_47 hl (k := 0) rfl rfl (by decide) rfl (fun ls hl => ?_)
        refine lv_goto (tgt := 29) hx hb dX1_forecast_50 (by decide) ?_
        exact ih29 (v29_l5 + (1 : Int32)) (v29_y_y.1, v29_y_y.2.1, (upd v29_y_y.2.2 (v29_l5).toNatClampNeg (0 : Int32))) H _ ls h  hP hD hS (lv_sub hl [0, 1, 2, 3, 4] rfl)
  exact L29 FU (0 : Int32) ((0 : Int32), (0 : Int32), y_y.2.2) H _ ls h  hP hD hS (lv_sub hl [0, 1, 2, 3, 5] rfl)
theorem dX10_landed_0 : decode cX10_landed 0 = .ok (.aload_n 0, 1) := by decide +kernel
theorem dX10_landed_1 : decode cX10_landed 1 = .ok (.aload_n 0, 1) := by decide +kernel
theorem dX10_landed_10 : decode cX10_landed 10 = .ok (.invokevirtual 79, 3) := by decide +kernel
theorem dX10_landed_13 : decode cX10_landed 13 = .ok (.ifCond .eq 5, 3) := by decide +kernel
theorem dX10_landed_16 : decode cX10_landed 16 = .ok (.iconst (-1), 1) := by decide +kernel
theorem dX10_landed_17 : decode cX10_landed 17 = .ok (.ireturn, 1) := by decide +kernel
theorem dX10_landed_18 : decode cX10_landed 18 = .ok (.aload_n 0, 1) := by decide +kernel
theorem dX10_landed_19 : decode cX10_landed 19 = .ok (.getfield 57, 3) := by decide +kernel
theorem dX10_landed_2 : decode cX10_landed 2 = .ok (.iload_n 1, 1) := by decide +kernel
theorem dX10_landed_22 : decode cX10_landed 22 = .ok (.aload_n 0, 1) := by decide +kernel
theorem dX10_landed_23 : decode cX10_landed 23 = .ok (.getfield 10, 3) := by decide +kernel
theorem dX10_landed_26 : decode cX10_landed 26 = .ok (.aload_n 0, 1) := by decide +kernel
theorem dX10_landed_27 : decode cX10_landed 27 = .ok (.getfield 29, 3) := by decide +kernel
theorem dX10_landed_3 : decode cX10_landed 3 = .ok (.iload_n 2, 1) := by decide +kernel
theorem dX10_landed_30 : decode cX10_landed 30 = .ok (.iload_n 1, 1) := by decide +kernel
theorem dX10_landed_31 : decode cX10_landed 31 = .ok (.iload_n 2, 1) := by decide +kernel
theorem dX10_landed_32 : decode cX10_landed 32 = .ok (.invokevirtual 324, 3) := by decide +kernel
theorem dX10_landed_35 : decode cX10_landed 35 = .ok (.aload_n 0, 1) := by decide +kernel
theorem dX10_landed_36 : decode cX10_landed 36 = .ok (.getfield 57, 3) := by decide +kernel
theorem dX10_landed_39 : decode cX10_landed 39 = .ok (.getfield 328, 3) := by decide +kernel
theorem dX10_landed_4 : decode cX10_landed 4 = .ok (.invokestatic 321, 3) := by decide +kernel
theorem dX10_landed_42 : decode cX10_landed 42 = .ok (.ireturn, 1) := by decide +kernel
theorem dX10_landed_7 : decode cX10_landed 7 = .ok (.invokevirtual 169, 3) := by decide +kernel
def vfX10_landed : List Cond := List.cons (.code yX10_landed cX10_landed 3 (some .int)) (apW [.methodLink RX10 321 yX10_isForecast, .static yX10_isForecast, .initialized RX10, .methodLink RX10 169 yX10_numberTrouble, .instanceMethod yX10_numberTrouble, .selects RX10 yX10_numberTrouble yX10_numberTrouble, .methodLink RX10 79 yX10_refused, .instanceMethod yX10_refused, .selects RX10 yX10_refused yX10_refused, .fieldLink RX10 57 "HookPier" "days" "LHookPier$Days;", .fieldLink RX10 10 "HookPier" "plan" "LHookPier$Plan;", .fieldLink RX10 29 "HookPier" "now" "LHookPier$Now;", .methodLink RX10 324 yX1_forecast, .instanceMethod yX1_forecast, .selects RX1 yX1_forecast yX1_forecast, .initialized RX1, .fieldLink RX10 328 "HookPier$Days" "landedMany" "I"] (apW wsX100 (apW wsX10 (apW vfX10_isForecast (apW vfX10_numberTrouble (apW vfX10_refused (vfX1_forecast)))))))
theorem ifX10_landed_X10 : ∀ w ∈ wsX100, w ∈ vfX10_landed := fun _ h => (List.mem_cons_of_mem _ (List.mem_append_right _ (List.mem_append_left _ h)))
theorem ifX10_landed_X1 : ∀ w ∈ wsX10, w ∈ vfX10_landed := fun _ h => (List.mem_cons_of_mem _ (List.mem_append_right _ (List.mem_append_right _ (List.mem_append_left _ h))))
theorem qfX10_landed : Good vfX10_landed := gd_cons (by decide +kernel) (gd_app (gd_dec (by decide +kernel) : Good [.methodLink RX10 321 yX10_isForecast, .static yX10_isForecast, .initialized RX10, .methodLink RX10 169 yX10_numberTrouble, .instanceMethod yX10_numberTrouble, .selects RX10 yX10_numberTrouble yX10_numberTrouble, .methodLink RX10 79 yX10_refused, .instanceMethod yX10_refused, .selects RX10 yX10_refused yX10_refused, .fieldLink RX10 57 "HookPier" "days" "LHookPier$Days;", .fieldLink RX10 10 "HookPier" "plan" "LHookPier$Plan;", .fieldLink RX10 29 "HookPier" "now" "LHookPier$Now;", .methodLink RX10 324 yX1_forecast, .instanceMethod yX1_forecast, .selects RX1 yX1_forecast yX1_forecast, .initialized RX1, .fieldLink RX10 328 "HookPier$Days" "landedMany" "I"]) (gd_app qsX10 (gd_app qsX1 (gd_app qfX10_isForecast (gd_app qfX10_numberTrouble (gd_app qfX10_refused qfX1_forecast))))))
theorem gfX10_landed_0 : GoodIn vfX10_landed (va_wsS RX10 321 yX10_isForecast vfX10_isForecast) := goodIn_app (goodIn_r [.methodLink RX10 321 yX10_isForecast, .static yX10_isForecast, .initialized RX10] [1, 2, 3] rfl (by decide +kernel)) (goodIn_m (fun _ h => (List.mem_cons_of_mem _ (List.mem_append_right _ (List.mem_append_right _ (List.mem_append_right _ (List.mem_append_left _ h)))))) qfX10_isForecast)
theorem gfX10_landed_1 : GoodIn vfX10_landed (wsV RX10 169 RX10 yX10_numberTrouble vfX10_numberTrouble) := goodIn_app (goodIn_r [.methodLink RX10 169 yX10_numberTrouble, .instanceMethod yX10_numberTrouble, .selects RX10 yX10_numberTrouble yX10_numberTrouble, .initialized RX10] [4, 5, 6, 3] rfl (by decide +kernel)) (goodIn_m (fun _ h => (List.mem_cons_of_mem _ (List.mem_append_right _ (List.mem_append_right _ (List.mem_append_right _ (List.mem_append_right _ (List.mem_append_left _ h))))))) qfX10_numberTrouble)
theorem gfX10_landed_2 : GoodIn vfX10_landed (wsV RX10 79 RX10 yX10_refused vfX10_refused) := goodIn_app (goodIn_r [.methodLink RX10 79 yX10_refused, .instanceMethod yX10_refused, .selects RX10 yX10_refused yX10_refused, .initialized RX10] [7, 8, 9, 3] rfl (by decide +kernel)) (goodIn_m (fun _ h => (List.mem_cons_of_mem _ (List.mem_append_right _ (List.mem_append_right _ (List.mem_append_right _ (List.mem_append_right _ (List.mem_append_right _ (List.mem_append_left _ h)))))))) qfX10_refused)
theorem gfX10_landed_3 : GoodIn vfX10_landed (wsV RX10 324 RX1 yX1_forecast vfX1_forecast) := goodIn_app (goodIn_r [.methodLink RX10 324 yX1_forecast, .instanceMethod yX1_forecast, .selects RX1 yX1_forecast yX1_forecast, .initialized RX1] [13, 14, 15, 16] rfl (by decide +kernel)) (goodIn_m (fun _ h => (List.mem_cons_of_mem _ (List.mem_append_right _ (List.mem_append_right _ (List.mem_append_right _ (List.mem_append_right _ (List.mem_append_right _ (List.mem_append_right _ h)))))))) qfX1_forecast)
set_option maxHeartbeats 2000000 in
set_option maxRecDepth 100000 in
theorem kfX10_landed (l : Launch) (dC : Nat → ClassId) (dI : Nat → Nat → Nat) (a0 : Nat) (k1 : Int32) (k2 : Int32) (a3 : Nat) (a4 : Nat) (a5 : Nat) (a6 : Nat) (a7 : Nat) (up : Nat → Nat) (kp : Nat → ClassId) (un : Nat → Nat) (kn : Nat → ClassId) (un2 : Nat → Nat) (kn2 : Nat → ClassId) (x_x : TX10_x) (g15 : Value) (g16 : Value) (g17 : Value) (g18 : Value) (g19 : Value) (p_p : TX6_p) (n_n : TX4_n) (y_y : TX1_y) (n2_n : TX4_n) (cB24 : ClassId) (sz : Nat) (out : (Int32 × TX10_x × TX1_y × TX4_n)) (h : f_X10_landed k1 k2 x_x p_p n_n y_y n2_n = some out) : Met l yX10_landed vfX10_landed ({ frames := 6, cells := 0, slots := 0, locals := 143 }) (PC (dC, dI) [.ref a0, .int k1, .int k2] sz ((a0, .inr (7, [.ref a3, g15, g16, .ref a4, g17, g18, g19, .ref a5, .int x_x.1, .int x_x.2])) :: bX6 a3 up kp p_p (bX4 a4 un kn n_n ((a5, .inr (1, [.ref a6, .int y_y.1, .int y_y.2.1, .ref a7])) :: bX4 a6 un2 kn2 n2_n ([(a7, .inl (cB24, 6, .inl y_y.2.2))])))) (tX6 kp (tX4 kn (tX4 kn2 ((cB24, .int) :: []))))) (va_Qi (S := Unit) (fun (r : Int32) _ => r = out.1) (fun _ t => BC (dC, dI) (va_A ((a0, .inr (7, [.ref a3, g15, g16, .ref a4, g17, g18, g19, .ref a5, .int x_x.1, .int x_x.2])) :: bX6 a3 up kp p_p (bX4 a4 un kn n_n ((a5, .inr (1, [.ref a6, .int y_y.1, .int y_y.2.1, .ref a7])) :: bX4 a6 un2 kn2 n2_n ([(a7, .inl (cB24, 6, .inl y_y.2.2))])))) sz) ((a0, .inr (7, [.ref a3, g15, g16, .ref a4, g17, g18, g19, .ref a5, .int out.2.1.1, .int out.2.1.2])) :: bX6 a3 up kp p_p (bX4 a4 un kn n_n ((a5, .inr (1, [.ref a6, .int out.2.2.1.1, .int out.2.2.1.2.1, .ref a7])) :: bX4 a6 un2 kn2 out.2.2.2 ([(a7, .inl (cB24, 6, .inl out.2.2.1.2.2))])))) [] t) (va_A ((a0, .inr (7, [.ref a3, g15, g16, .ref a4, g17, g18, g19, .ref a5, .int x_x.1, .int x_x.2])) :: bX6 a3 up kp p_p (bX4 a4 un kn n_n ((a5, .inr (1, [.ref a6, .int y_y.1, .int y_y.2.1, .ref a7])) :: bX4 a6 un2 kn2 n2_n ([(a7, .inl (cB24, 6, .inl y_y.2.2))])))) sz)) 0 0 (va_A ((a0, .inr (7, [.ref a3, g15, g16, .ref a4, g17, g18, g19, .ref a5, .int x_x.1, .int x_x.2])) :: bX6 a3 up kp p_p (bX4 a4 un kn n_n ((a5, .inr (1, [.ref a6, .int y_y.1, .int y_y.2.1, .ref a7])) :: bX4 a6 un2 kn2 n2_n ([(a7, .inl (cB24, 6, .inl y_y.2.2))])))) sz) := by
  refine Met.ofW (cc := cX10_landed) (maxL := 3) (ret := (some .int)) (by decide) rfl ?_
  intro p e s m args below meth c s₁ B0 hml hv
  obtain ⟨rfl, hsz, hP, hK, hD0, hN⟩ := hv
  have hx := B0.exec
  have hb := B0.bytes
  have hr := B0.returns
  have hts := atoms_spec (ws := vfX10_landed) B0.pre
  have hown : s.vm.findClass RX10 = some m.cls := findClass_of_methodNamed B0.named
  have hlocks := B0.notSynchronized
  subst hsz
  have hD := hD0.self (sz := s.heap.size)
  generalize hAe : va_A ((a0, .inr (7, [.ref a3, g15, g16, .ref a4, g17, g18, g19, .ref a5, .int x_x.1, .int x_x.2])) :: bX6 a3 up kp p_p (bX4 a4 un kn n_n ((a5, .inr (1, [.ref a6, .int y_y.1, .int y_y.2.1, .ref a7])) :: bX4 a6 un2 kn2 n2_n ([(a7, .inl (cB24, 6, .inl y_y.2.2))])))) s.heap.size = A at hD ⊢
  have hA : ∀ q : Nat, s.heap.size ≤ q → A q := fun q h => by rw [← hAe]; exact Or.inr h
  have hS : va_S A s.heap s.heap [] := va_S.rf
  have hP : va_P (dC, dI) vwCl ((a0, .inr (7, [.ref a3, g15, g16, .ref a4, g17, g18, g19, .ref a5, .int x_x.1, .int x_x.2])) :: bX6 a3 up kp p_p (bX4 a4 un kn n_n ((a5, .inr (1, [.ref a6, .int y_y.1, .int y_y.2.1, .ref a7])) :: bX4 a6 un2 kn2 n2_n ([(a7, .inl (cB24, 6, .inl y_y.2.2))])))) s.heap := hP
  have hl := lv_entry ([.ref a0, .int k1, .int k2]) (n := 3) (Nat.le_of_ble_eq_true rfl)
  rw [lg_entry_eq]
  generalize (lg_sl ([.ref a0, .int k1, .int k2]) ++ List.replicate (3 - (lg_sl ([.ref a0, .int k1, .int k2])).length) Slot.unset).toArray = ls at hl ⊢
  have hl : lv_has ls 3 [(0, .ref a0), (1, .int k1), (2, .int k2)] := hl
  refine W_q (fun QQ hQQ => ?_)
  rw [f_X10_landed] at h
  refine lv_aload_n hx hb dX10_landed_0 rfl (lv_at hl 0 rfl) ?_
  refine lv_aload_n hx hb dX10_landed_1 rfl (lv_at hl 0 rfl) ?_
  refine lv_iload_n hx hb dX10_landed_2 rfl (lv_at hl 1 rfl) ?_
  refine lv_iload_n hx hb dX10_landed_3 rfl (lv_at hl 2 rfl) ?_
  obtain ⟨o4, eo4⟩ : ∃ o, o = f_X10_isForecast k1 k2 := ⟨_, rfl⟩
  have h := nm_of h o4 eo4
  refine cl_i (wc := []) (wr := ((a0, .inr (7, [.ref a3, g15, g16, .ref a4, g17, g18, g19, .ref a5, .int x_x.1, .int x_x.2])) :: bX6 a3 up kp p_p (bX4 a4 un kn n_n ((a5, .inr (1, [.ref a6, .int y_y.1, .int y_y.2.1, .ref a7])) :: bX4 a6 un2 kn2 n2_n ([(a7, .inl (cB24, 6, .inl y_y.2.2))]))))) (va_runS (As := [.int k1, .int k2]) (rest := [.ref a0, .ref a0]) ⟨hx, hb, hml, hown, hts⟩ (kfX10_isForecast l dC dI k1 k2 s.heap.size o4 eo4.symm) (va_cwS 2 hts gfX10_landed_0 rfl rfl rfl (by decide +kernel) ⟨(Nat.le_of_ble_eq_true rfl), (Nat.le_of_ble_eq_true rfl)⟩) (PS (hP.sub (ws' := []) [] rfl) (hK.sub (tys' := ([])) [] rfl) (hD.sub (ws' := []) [] (by decide) rfl) hN) rfl rfl hl.1 rfl (lv_room (Nat.le_of_ble_eq_true rfl)) dX10_landed_4 ⟨(Nat.le_of_ble_eq_true rfl), (Nat.le_of_ble_eq_true rfl)⟩) hP hD hK hS hA [] [0, 1, 2, 3, 4, 5, 6, 7, 8, 9, 10, 11, 12, 13, 14, 15, 16, 17, 18, 19, 20, 21, 22] rfl rfl (by decide) (by decide) (fun r4 _ H locs hw hP hD _ hS => ?_)
  obtain ⟨hw, br4⟩ := hw
  obtain rfl := hw.symm
  have hP : va_P (dC, dI) vwCl ((a0, .inr (7, [.ref a3, g15, g16, .ref a4, g17, g18, g19, .ref a5, .int x_x.1, .int x_x.2])) :: bX6 a3 up kp p_p (bX4 a4 un kn n_n ((a5, .inr (1, [.ref a6, .int y_y.1, .int y_y.2.1, .ref a7])) :: bX4 a6 un2 kn2 n2_n ([(a7, .inl (cB24, 6, .inl y_y.2.2))])))) H := hP
  have hD : va_D A ((a0, .inr (7, [.ref a3, g15, g16, .ref a4, g17, g18, g19, .ref a5, .int x_x.1, .int x_x.2])) :: bX6 a3 up kp p_p (bX4 a4 un kn n_n ((a5, .inr (1, [.ref a6, .int y_y.1, .int y_y.2.1, .ref a7])) :: bX4 a6 un2 kn2 n2_n ([(a7, .inl (cB24, 6, .inl y_y.2.2))])))) := hD
  obtain ⟨o7, eo7⟩ : ∃ o, o = f_X10_numberTrouble o4 p_p := ⟨_, rfl⟩
  have h := nm_of h o7 eo7
  refine cl_i (wc := ((a0, .inr (7, [.ref a3, g15, g16, .ref a4, g17, g18, g19, .ref a5, .int x_x.1, .int x_x.2])) :: bX6 a3 up kp p_p [])) (wr := (bX4 a4 un kn n_n ((a5, .inr (1, [.ref a6, .int y_y.1, .int y_y.2.1, .ref a7])) :: bX4 a6 un2 kn2 n2_n ([(a7, .inl (cB24, 6, .inl y_y.2.2))])))) (va_runV (As := [.int o4]) (rest := [.ref a0]) ⟨hx, hb, hml, hown, hts⟩ (kfX10_numberTrouble l dC dI a0 o4 a3 up kp (g15) (g16) (.ref a4) (g17) (g18) (g19) (.ref a5) (.int x_x.1) (.int x_x.2) p_p H.size o7 eo7.symm) (cwV 1 hts gfX10_landed_1 rfl rfl rfl (by decide +kernel) ⟨(Nat.le_of_ble_eq_true rfl), (Nat.le_of_ble_eq_true rfl)⟩) (PV (hP.sub (ws' := ((a0, .inr (7, [.ref a3, g15, g16, .ref a4, g17, g18, g19, .ref a5, .int x_x.1, .int x_x.2])) :: bX6 a3 up kp p_p [])) [0, 1, 2, 3, 4, 5, 6, 7, 8, 9, 10] rfl) (hK.sub (tys' := (tX6 kp ([]))) [0, 1, 2, 3, 4, 5, 6, 7, 8] rfl) (hD.sub (ws' := ((a0, .inr (7, [.ref a3, g15, g16, .ref a4, g17, g18, g19, .ref a5, .int x_x.1, .int x_x.2])) :: bX6 a3 up kp p_p [])) [0, 1, 2, 3, 4, 5, 6, 7, 8, 9, 10] (by decide) rfl) hN 0 rfl rfl) rfl rfl hl.1 rfl (lv_room (Nat.le_of_ble_eq_true rfl)) dX10_landed_7 ⟨(Nat.le_of_ble_eq_true rfl), (Nat.le_of_ble_eq_true rfl)⟩) hP hD hK hS hA [0, 1, 2, 3, 4, 5, 6, 7, 8, 9, 10] [11, 12, 13, 14, 15, 16, 17, 18, 19, 20, 21, 22] rfl rfl (by decide) (by decide) (fun r7 _ H locs hw hP hD _ hS => ?_)
  obtain rfl := hw.symm
  have hP : va_P (dC, dI) vwCl (bX4 a4 un kn n_n ((a5, .inr (1, [.ref a6, .int y_y.1, .int y_y.2.1, .ref a7])) :: bX4 a6 un2 kn2 n2_n ((a7, .inl (cB24, 6, .inl y_y.2.2)) :: (a0, .inr (7, [.ref a3, g15, g16, .ref a4, g17, g18, g19, .ref a5, .int x_x.1, .int x_x.2])) :: bX6 a3 up kp p_p []))) H := hP
  have hD : va_D A (bX4 a4 un kn n_n ((a5, .inr (1, [.ref a6, .int y_y.1, .int y_y.2.1, .ref a7])) :: bX4 a6 un2 kn2 n2_n ((a7, .inl (cB24, 6, .inl y_y.2.2)) :: (a0, .inr (7, [.ref a3, g15, g16, .ref a4, g17, g18, g19, .ref a5, .int x_x.1, .int x_x.2])) :: bX6 a3 up kp p_p []))) := hD
  obtain ⟨o10, eo10⟩ : ∃ o, o = f_X10_refused o7 x_x := ⟨_, rfl⟩
  have h := nm_of h o10 eo10
  refine cl_i (wc := ([(a0, .inr (7, [.ref a3, g15, g16, .ref a4, g17, g18, g19, .ref a5, .int x_x.1, .int x_x.2]))])) (wr := (bX4 a4 un kn n_n ((a5, .inr (1, [.ref a6, .int y_y.1, .int y_y.2.1, .ref a7])) :: bX4 a6 un2 kn2 n2_n ((a7, .inl (cB24, 6, .inl y_y.2.2)) :: bX6 a3 up kp p_p [])))) (va_runV (As := [.int o7]) (rest := []) ⟨hx, hb, hml, hown, hts⟩ (kfX10_refused l dC dI a0 o7 x_x (.ref a3) (g15) (g16) (.ref a4) (g17) (g18) (g19) (.ref a5) H.size o10 eo10.symm) (cwV 1 hts gfX10_landed_2 rfl rfl rfl (by decide +kernel) ⟨(Nat.le_of_ble_eq_true rfl), (Nat.le_of_ble_eq_true rfl)⟩) (PV (hP.sub (ws' := ([(a0, .inr (7, [.ref a3, g15, g16, .ref a4, g17, g18, g19, .ref a5, .int x_x.1, .int x_x.2]))])) [12] rfl) (hK.sub (tys' := ([])) [] rfl) (hD.sub (ws' := ([(a0, .inr (7, [.ref a3, g15, g16, .ref a4, g17, g18, g19, .ref a5, .int x_x.1, .int x_x.2]))])) [12] (by decide) rfl) hN 0 rfl rfl) rfl rfl hl.1 rfl (lv_room (Nat.le_of_ble_eq_true rfl)) dX10_landed_10 ⟨(Nat.le_of_ble_eq_true rfl), (Nat.le_of_ble_eq_true rfl)⟩) hP hD hK hS hA [12] [0, 1, 2, 3, 4, 5, 6, 7, 8, 9, 10, 11, 13, 14, 15, 16, 17, 18, 19, 20, 21, 22] rfl rfl (by decide) (by decide) (fun r10 _ H locs hw hP hD _ hS => ?_)
  obtain ⟨hw, br10⟩ := hw
  obtain rfl := hw
  have hP : va_P (dC, dI) vwCl (bX4 a4 un kn n_n ((a5, .inr (1, [.ref a6, .int y_y.1, .int y_y.2.1, .ref a7])) :: bX4 a6 un2 kn2 n2_n ((a7, .inl (cB24, 6, .inl y_y.2.2)) :: bX6 a3 up kp p_p ([(a0, .inr (7, [.ref a3, g15, g16, .ref a4, g17, g18, g19, .ref a5, .int o10.2.1, .int o10.2.2]))])))) H := hP
  have hD : va_D A (bX4 a4 un kn n_n ((a5, .inr (1, [.ref a6, .int y_y.1, .int y_y.2.1, .ref a7])) :: bX4 a6 un2 kn2 n2_n ((a7, .inl (cB24, 6, .inl y_y.2.2)) :: bX6 a3 up kp p_p ([(a0, .inr (7, [.ref a3, g15, g16, .ref a4, g17, g18, g19, .ref a5, .int o10.2.1, .int o10.2.2]))])))) := hD
  refine lv_if_eq (tgt := 18) hx hb dX10_landed_13 (by decide) (fun c13 => ?_) (fun c13 => ?_)
  · have h := (if_pos c13).symm.trans h
    refine lv_aload_n hx hb dX10_landed_18 rfl (lv_at hl 0 rfl) ?_
    refine va_get (D := (dC, dI)) (ci := 7) (v := .ref a5) (C := RX10) (T := TX10) (N := 10) hx hb hts ifX10_landed_X10 hown hK hP 22 rfl rfl 7 (by decide) (hts (.fieldLink RX10 57 "HookPier" "days" "LHookPier$Days;") (List.mem_of_getElem? (i := 10) rfl)) (fun _ h9 => h9) rfl dX10_landed_19 ?_
    refine lv_aload_n hx hb dX10_landed_22 rfl (lv_at hl 0 rfl) ?_
    refine va_get (D := (dC, dI)) (ci := 7) (v := .ref a3) (C := RX10) (T := TX10) (N := 10) hx hb hts ifX10_landed_X10 hown hK hP 22 rfl rfl 0 (by decide) (hts (.fieldLink RX10 10 "HookPier" "plan" "LHookPier$Plan;") (List.mem_of_getElem? (i := 11) rfl)) (fun _ h9 => h9) rfl dX10_landed_23 ?_
    refine lv_aload_n hx hb dX10_landed_26 rfl (lv_at hl 0 rfl) ?_
    refine va_get (D := (dC, dI)) (ci := 7) (v := .ref a4) (C := RX10) (T := TX10) (N := 10) hx hb hts ifX10_landed_X10 hown hK hP 22 rfl rfl 3 (by decide) (hts (.fieldLink RX10 29 "HookPier" "now" "LHookPier$Now;") (List.mem_of_getElem? (i := 12) rfl)) (fun _ h9 => h9) rfl dX10_landed_27 ?_
    refine lv_iload_n hx hb dX10_landed_30 rfl (lv_at hl 1 rfl) ?_
    refine lv_iload_n hx hb dX10_landed_31 rfl (lv_at hl 2 rfl) ?_
    obtain ⟨o32, eo32, h⟩ := bd_of h
    refine cl_v (wc := ((a5, .inr (1, [.ref a6, .int y_y.1, .int y_y.2.1, .ref a7])) :: bX6 a3 up kp p_p (bX4 a4 un kn n_n (bX4 a6 un2 kn2 n2_n ([(a7, .inl (cB24, 6, .inl y_y.2.2))]))))) (wr := ([(a0, .inr (7, [.ref a3, g15, g16, .ref a4, g17, g18, g19, .ref a5, .int o10.2.1, .int o10.2.2]))])) (va_runV (As := [.ref a3, .ref a4, .int k1, .int k2]) (rest := []) ⟨hx, hb, hml, hown, hts⟩ (kfX1_forecast l dC dI a5 a3 a4 k1 k2 a6 a7 up kp un kn un2 kn2 y_y p_p n_n n2_n cB24 H.size o32 eo32) (cwV 4 hts gfX10_landed_3 rfl rfl rfl (by decide +kernel) ⟨(Nat.le_of_ble_eq_true rfl), (Nat.le_of_ble_eq_true rfl)⟩) (PV (hP.sub (ws' := ((a5, .inr (1, [.ref a6, .int y_y.1, .int y_y.2.1, .ref a7])) :: bX6 a3 up kp p_p (bX4 a4 un kn n_n (bX4 a6 un2 kn2 n2_n ([(a7, .inl (cB24, 6, .inl y_y.2.2))]))))) [5, 12, 13, 14, 15, 16, 17, 18, 19, 20, 21, 0, 1, 2, 3, 4, 6, 7, 8, 9, 10, 11] rfl) (hK.sub (tys' := (tX6 kp (tX4 kn (tX4 kn2 ((cB24, .int) :: []))))) [0, 1, 2, 3, 4, 5, 6, 7, 8, 9, 10, 11, 12, 13, 14, 15, 16, 17] rfl) (hD.sub (ws' := ((a5, .inr (1, [.ref a6, .int y_y.1, .int y_y.2.1, .ref a7])) :: bX6 a3 up kp p_p (bX4 a4 un kn n_n (bX4 a6 un2 kn2 n2_n ([(a7, .inl (cB24, 6, .inl y_y.2.2))]))))) [5, 12, 13, 14, 15, 16, 17, 18, 19, 20, 21, 0, 1, 2, 3, 4, 6, 7, 8, 9, 10, 11] (by decide) rfl) hN 0 rfl rfl) rfl rfl hl.1 rfl (lv_room (Nat.le_of_ble_eq_true rfl)) dX10_landed_32 ⟨(Nat.le_of_ble_eq_true rfl), (Nat.le_of_ble_eq_true rfl)⟩) hP hD hK hS hA [5, 12, 13, 14, 15, 16, 17, 18, 19, 20, 21, 0, 1, 2, 3, 4, 6, 7, 8, 9, 10, 11] [22] rfl rfl (by decide) (by decide) (fun _ H locs hw hP hD _ hS => ?_)
    have hP : va_P (dC, dI) vwCl ((a0, .inr (7, [.ref a3, g15, g16, .ref a4, g17, g18, g19, .ref a5, .int o10.2.1, .int o10.2.2])) :: (a5, .inr (1, [.ref a6, .int o32.1.1, .int o32.1.2.1, .ref a7])) :: bX6 a3 up kp p_p (bX4 a4 un kn n_n (bX4 a6 un2 kn2 o32.2 ([(a7, .inl (cB24, 6, .inl o32.1.2.2))])))) H := hP
    have hD : va_D A ((a0, .inr (7, [.ref a3, g15, g16, .ref a4, g17, g18, g19, .ref a5, .int o10.2.1, .int o10.2.2])) :: (a5, .inr (1, [.ref a6, .int o32.1.1, .int o32.1.2.1, .ref a7])) :: bX6 a3 up kp p_p (bX4 a4 un kn n_n (bX4 a6 un2 kn2 o32.2 ([(a7, .inl (cB24, 6, .inl o32.1.2.2))])))) := hD
    refine lv_aload_n hx hb dX10_landed_35 rfl (lv_at hl 0 rfl) ?_
    refine va_get (D := (dC, dI)) (ci := 7) (v := .ref a5) (C := RX10) (T := TX10) (N := 10) hx hb hts ifX10_landed_X10 hown hK hP 0 rfl rfl 7 (by decide) (hts (.fieldLink RX10 57 "HookPier" "days" "LHookPier$Days;") (List.mem_of_getElem? (i := 10) rfl)) (fun _ h9 => h9) rfl dX10_landed_36 ?_
    refine va_get (D := (dC, dI)) (ci := 1) (v := .int o32.1.1) (C := RX1) (T := TX1) (N := 4) hx hb hts ifX10_landed_X1 hown hK hP 1 rfl rfl 1 (by decide) (hts (.fieldLink RX10 328 "HookPier$Days" "landedMany" "I") (List.mem_of_getElem? (i := 17) rfl)) (fun _ h9 => h9) rfl dX10_landed_39 ?_
    obtain rfl := Option.some.inj h
    have hP9 := hP.sub (ws' := ((a0, .inr (7, [.ref a3, g15, g16, .ref a4, g17, g18, g19, .ref a5, .int o10.2.1, .int o10.2.2])) :: bX6 a3 up kp p_p (bX4 a4 un kn n_n ((a5, .inr (1, [.ref a6, .int o32.1.1, .int o32.1.2.1, .ref a7])) :: bX4 a6 un2 kn2 o32.2 ([(a7, .inl (cB24, 6, .inl o32.1.2.2))]))))) [0, 2, 3, 4, 5, 6, 7, 8, 9, 10, 11, 12, 13, 14, 15, 16, 1, 17, 18, 19, 20, 21, 22] rfl
    have hD9 := hD.sub (ws' := ((a0, .inr (7, [.ref a3, g15, g16, .ref a4, g17, g18, g19, .ref a5, .int o10.2.1, .int o10.2.2])) :: bX6 a3 up kp p_p (bX4 a4 un kn n_n ((a5, .inr (1, [.ref a6, .int o32.1.1, .int o32.1.2.1, .ref a7])) :: bX4 a6 un2 kn2 o32.2 ([(a7, .inl (cB24, 6, .inl o32.1.2.2))]))))) [0, 2, 3, 4, 5, 6, 7, 8, 9, 10, 11, 12, 13, 14, 15, 16, 1, 17, 18, 19, 20, 21, 22] (by decide) rfl
    have hK9 := hK.sub (tys' := []) [] rfl
    rw [hQQ]
    exact W.iret (v := o32.1.1) hx hb hr (fun t ht hW => ⟨⟨o32.1.1, (), rfl, rfl, by rw [ht]; exact hP9, va_K.moved hW.alike hK9, hD9⟩, hS.F ht⟩) hS.2.2 dX10_landed_42
  · have h := (if_neg c13).symm.trans h
    refine lv_iconst (v := (-1)) hx hb dX10_landed_16 (by decide) ?_
    obtain rfl := Option.some.inj h
    have hP9 := hP.sub (ws' := ((a0, .inr (7, [.ref a3, g15, g16, .ref a4, g17, g18, g19, .ref a5, .int o10.2.1, .int o10.2.2])) :: bX6 a3 up kp p_p (bX4 a4 un kn n_n ((a5, .inr (1, [.ref a6, .int y_y.1, .int y_y.2.1, .ref a7])) :: bX4 a6 un2 kn2 n2_n ([(a7, .inl (cB24, 6, .inl y_y.2.2))]))))) [22, 12, 13, 14, 15, 16, 17, 18, 19, 20, 21, 0, 1, 2, 3, 4, 5, 6, 7, 8, 9, 10, 11] rfl
    have hD9 := hD.sub (ws' := ((a0, .inr (7, [.ref a3, g15, g16, .ref a4, g17, g18, g19, .ref a5, .int o10.2.1, .int o10.2.2])) :: bX6 a3 up kp p_p (bX4 a4 un kn n_n ((a5, .inr (1, [.ref a6, .int y_y.1, .int y_y.2.1, .ref a7])) :: bX4 a6 un2 kn2 n2_n ([(a7, .inl (cB24, 6, .inl y_y.2.2))]))))) [22, 12, 13, 14, 15, 16, 17, 18, 19, 20, 21, 0, 1, 2, 3, 4, 5, 6, 7, 8, 9, 10, 11] (by decide) rfl
    have hK9 := hK.sub (tys' := []) [] rfl
    rw [hQQ]
    exact W.iret (v := (-1 : Int32)) hx hb hr (fun t ht hW => ⟨⟨(-1 : Int32), (), rfl, rfl, by rw [ht]; exact hP9, va_K.moved hW.alike hK9, hD9⟩, hS.F ht⟩) hS.2.2 dX10_landed_17
theorem dX10_landedIn_0 : decode cX10_landedIn 0 = .ok (.aload_n 0, 1) := by decide +kernel
theorem dX10_landedIn_1 : decode cX10_landedIn 1 = .ok (.iload_n 1, 1) := by decide +kernel
theorem dX10_landedIn_10 : decode cX10_landedIn 10 = .ok (.ifCond .ne 15, 3) := by decide +kernel
theorem dX10_landedIn_13 : decode cX10_landedIn 13 = .ok (.aload_n 0, 1) := by decide +kernel
theorem dX10_landedIn_14 : decode cX10_landedIn 14 = .ok (.iload_n 2, 1) := by decide +kernel
theorem dX10_landedIn_15 : decode cX10_landedIn 15 = .ok (.iload_n 3, 1) := by decide +kernel
theorem dX10_landedIn_16 : decode cX10_landedIn 16 = .ok (.invokestatic 321, 3) := by decide +kernel
theorem dX10_landedIn_19 : decode cX10_landedIn 19 = .ok (.invokevirtual 169, 3) := by decide +kernel
theorem dX10_landedIn_2 : decode cX10_landedIn 2 = .ok (.invokevirtual 102, 3) := by decide +kernel
theorem dX10_landedIn_22 : decode cX10_landedIn 22 = .ok (.goto 5, 3) := by decide +kernel
theorem dX10_landedIn_25 : decode cX10_landedIn 25 = .ok (.iload 4, 2) := by decide +kernel
theorem dX10_landedIn_27 : decode cX10_landedIn 27 = .ok (.invokevirtual 79, 3) := by decide +kernel
theorem dX10_landedIn_30 : decode cX10_landedIn 30 = .ok (.ifCond .eq 5, 3) := by decide +kernel
theorem dX10_landedIn_33 : decode cX10_landedIn 33 = .ok (.iconst (-1), 1) := by decide +kernel
theorem dX10_landedIn_34 : decode cX10_landedIn 34 = .ok (.ireturn, 1) := by decide +kernel
theorem dX10_landedIn_35 : decode cX10_landedIn 35 = .ok (.aload_n 0, 1) := by decide +kernel
theorem dX10_landedIn_36 : decode cX10_landedIn 36 = .ok (.getfield 57, 3) := by decide +kernel
theorem dX10_landedIn_39 : decode cX10_landedIn 39 = .ok (.aload_n 0, 1) := by decide +kernel
theorem dX10_landedIn_40 : decode cX10_landedIn 40 = .ok (.getfield 10, 3) := by decide +kernel
theorem dX10_landedIn_43 : decode cX10_landedIn 43 = .ok (.aload_n 0, 1) := by decide +kernel
theorem dX10_landedIn_44 : decode cX10_landedIn 44 = .ok (.getfield 29, 3) := by decide +kernel
theorem dX10_landedIn_47 : decode cX10_landedIn 47 = .ok (.iload_n 2, 1) := by decide +kernel
theorem dX10_landedIn_48 : decode cX10_landedIn 48 = .ok (.iload_n 3, 1) := by decide +kernel
theorem dX10_landedIn_49 : decode cX10_landedIn 49 = .ok (.invokevirtual 324, 3) := by decide +kernel
theorem dX10_landedIn_5 : decode cX10_landedIn 5 = .ok (.istore 4, 2) := by decide +kernel
theorem dX10_landedIn_52 : decode cX10_landedIn 52 = .ok (.aload_n 0, 1) := by decide +kernel
theorem dX10_landedIn_53 : decode cX10_landedIn 53 = .ok (.getfield 57, 3) := by decide +kernel
theorem dX10_landedIn_56 : decode cX10_landedIn 56 = .ok (.getfield 331, 3) := by decide +kernel
theorem dX10_landedIn_59 : decode cX10_landedIn 59 = .ok (.iload_n 1, 1) := by decide +kernel
theorem dX10_landedIn_60 : decode cX10_landedIn 60 = .ok (.iaload, 1) := by decide +kernel
theorem dX10_landedIn_61 : decode cX10_landedIn 61 = .ok (.ireturn, 1) := by decide +kernel
theorem dX10_landedIn_7 : decode cX10_landedIn 7 = .ok (.aload_n 0, 1) := by decide +kernel
theorem dX10_landedIn_8 : decode cX10_landedIn 8 = .ok (.iload 4, 2) := by decide +kernel
def vfX10_landedIn : List Cond := List.cons (.code yX10_landedIn cX10_landedIn 5 (some .int)) (apW [.methodLink RX10 102 yX10_answerTrouble, .instanceMethod yX10_answerTrouble, .selects RX10 yX10_answerTrouble yX10_answerTrouble, .initialized RX10, .methodLink RX10 79 yX10_refused, .instanceMethod yX10_refused, .selects RX10 yX10_refused yX10_refused, .fieldLink RX10 57 "HookPier" "days" "LHookPier$Days;", .fieldLink RX10 10 "HookPier" "plan" "LHookPier$Plan;", .fieldLink RX10 29 "HookPier" "now" "LHookPier$Now;", .methodLink RX10 324 yX1_forecast, .instanceMethod yX1_forecast, .selects RX1 yX1_forecast yX1_forecast, .initialized RX1, .fieldLink RX10 331 "HookPier$Days" "landedInDay" "[I", .methodLink RX10 321 yX10_isForecast, .static yX10_isForecast, .methodLink RX10 169 yX10_numberTrouble, .instanceMethod yX10_numberTrouble, .selects RX10 yX10_numberTrouble yX10_numberTrouble] (apW wsX100 (apW wsX10 (apW vfX10_answerTrouble (apW vfX10_refused (apW vfX1_forecast (apW vfX10_isForecast (vfX10_numberTrouble))))))))
theorem ifX10_landedIn_X10 : ∀ w ∈ wsX100, w ∈ vfX10_landedIn := fun _ h => (List.mem_cons_of_mem _ (List.mem_append_right _ (List.mem_append_left _ h)))
theorem ifX10_landedIn_X1 : ∀ w ∈ wsX10, w ∈ vfX10_landedIn := fun _ h => (List.mem_cons_of_mem _ (List.mem_append_right _ (List.mem_append_right _ (List.mem_append_left _ h))))
theorem qfX10_landedIn : Good vfX10_landedIn := gd_cons (by decide +kernel) (gd_app (gd_dec (by decide +kernel) : Good [.methodLink RX10 102 yX10_answerTrouble, .instanceMethod yX10_answerTrouble, .selects RX10 yX10_answerTrouble yX10_answerTrouble, .initialized RX10, .methodLink RX10 79 yX10_refused, .instanceMethod yX10_refused, .selects RX10 yX10_refused yX10_refused, .fieldLink RX10 57 "HookPier" "days" "LHookPier$Days;", .fieldLink RX10 10 "HookPier" "plan" "LHookPier$Plan;", .fieldLink RX10 29 "HookPier" "now" "LHookPier$Now;", .methodLink RX10 324 yX1_forecast, .instanceMethod yX1_forecast, .selects RX1 yX1_forecast yX1_forecast, .initialized RX1, .fieldLink RX10 331 "HookPier$Days" "landedInDay" "[I", .methodLink RX10 321 yX10_isForecast, .static yX10_isForecast, .methodLink RX10 169 yX10_numberTrouble, .instanceMethod yX10_numberTrouble, .selects RX10 yX10_numberTrouble yX10_numberTrouble]) (gd_app qsX10 (gd_app qsX1 (gd_app qfX10_answerTrouble (gd_app qfX10_refused (gd_app qfX1_forecast (gd_app qfX10_isForecast qfX10_numberTrouble)))))))
theorem gfX10_landedIn_0 : GoodIn vfX10_landedIn (wsV RX10 102 RX10 yX10_answerTrouble vfX10_answerTrouble) := goodIn_app (goodIn_r [.methodLink RX10 102 yX10_answerTrouble, .instanceMethod yX10_answerTrouble, .selects RX10 yX10_answerTrouble yX10_answerTrouble, .initialized RX10] [1, 2, 3, 4] rfl (by decide +kernel)) (goodIn_m (fun _ h => (List.mem_cons_of_mem _ (List.mem_append_right _ (List.mem_append_right _ (List.mem_append_right _ (List.mem_append_left _ h)))))) qfX10_answerTrouble)
theorem gfX10_landedIn_1 : GoodIn vfX10_landedIn (wsV RX10 79 RX10 yX10_refused vfX10_refused) := goodIn_app (goodIn_r [.methodLink RX10 79 yX10_refused, .instanceMethod yX10_refused, .selects RX10 yX10_refused yX10_refused, .initialized RX10] [5, 6, 7, 4] rfl (by decide +kernel)) (goodIn_m (fun _ h => (List.mem_cons_of_mem _ (List.mem_append_right _ (List.mem_append_right _ (List.mem_append_right _ (List.mem_append_right _ (List.mem_append_left _ h))))))) qfX10_refused)
theorem gfX10_landedIn_2 : GoodIn vfX10_landedIn (wsV RX10 324 RX1 yX1_forecast vfX1_forecast) := goodIn_app (goodIn_r [.methodLink RX10 324 yX1_forecast, .instanceMethod yX1_forecast, .selects RX1 yX1_forecast yX1_forecast, .initialized RX1] [11, 12, 13, 14] rfl (by decide +kernel)) (goodIn_m (fun _ h => (List.mem_cons_of_mem _ (List.mem_append_right _ (List.mem_append_right _ (List.mem_append_right _ (List.mem_append_right _ (List.mem_append_right _ (List.mem_append_left _ h)))))))) qfX1_forecast)
theorem gfX10_landedIn_3 : GoodIn vfX10_landedIn (va_wsS RX10 321 yX10_isForecast vfX10_isForecast) := goodIn_app (goodIn_r [.methodLink RX10 321 yX10_isForecast, .static yX10_isForecast, .initialized RX10] [16, 17, 4] rfl (by decide +kernel)) (goodIn_m (fun _ h => (List.mem_cons_of_mem _ (List.mem_append_right _ (List.mem_append_right _ (List.mem_append_right _ (List.mem_append_right _ (List.mem_append_right _ (List.mem_append_right _ (List.mem_append_left _ h))))))))) qfX10_isForecast)
theorem gfX10_landedIn_4 : GoodIn vfX10_landedIn (wsV RX10 169 RX10 yX10_numberTrouble vfX10_numberTrouble) := goodIn_app (goodIn_r [.methodLink RX10 169 yX10_numberTrouble, .instanceMethod yX10_numberTrouble, .selects RX10 yX10_numberTrouble yX10_numberTrouble, .initialized RX10] [18, 19, 20, 4] rfl (by decide +kernel)) (goodIn_m (fun _ h => (List.mem_cons_of_mem _ (List.mem_append_right _ (List.mem_append_right _ (List.mem_append_right _ (List.mem_append_right _ (List.mem_append_right _ (List.mem_append_right _ (List.mem_append_right _ h))))))))) qfX10_numberTrouble)
set_option maxHeartbeats 2000000 in
set_option maxRecDepth 100000 in
theorem kfX10_landedIn (l : Launch) (dC : Nat → ClassId) (dI : Nat → Nat → Nat) (a0 : Nat) (k1 : Int32) (k2 : Int32) (k3 : Int32) (a4 : Nat) (a5 : Nat) (a6 : Nat) (a7 : Nat) (a8 : Nat) (up : Nat → Nat) (kp : Nat → ClassId) (un : Nat → Nat) (kn : Nat → ClassId) (un2 : Nat → Nat) (kn2 : Nat → ClassId) (x_x : TX10_x) (g16 : Value) (g17 : Value) (g18 : Value) (g19 : Value) (g20 : Value) (p_p : TX6_p) (n_n : TX4_n) (y_y : TX1_y) (n2_n : TX4_n) (cB25 : ClassId) (sz : Nat) (out : (Int32 × TX10_x × TX1_y × TX4_n)) (h : f_X10_landedIn k1 k2 k3 x_x p_p n_n y_y n2_n = some out) : Met l yX10_landedIn vfX10_landedIn ({ frames := 6, cells := 0, slots := 0, locals := 143 }) (PC (dC, dI) [.ref a0, .int k1, .int k2, .int k3] sz ((a0, .inr (7, [.ref a4, g16, g17, .ref a5, g18, g19, g20, .ref a6, .int x_x.1, .int x_x.2])) :: bX6 a4 up kp p_p (bX4 a5 un kn n_n ((a6, .inr (1, [.ref a7, .int y_y.1, .int y_y.2.1, .ref a8])) :: bX4 a7 un2 kn2 n2_n ([(a8, .inl (cB25, 6, .inl y_y.2.2))])))) (tX6 kp (tX4 kn (tX4 kn2 ((cB25, .int) :: []))))) (va_Qi (S := Unit) (fun (r : Int32) _ => r = out.1) (fun _ t => BC (dC, dI) (va_A ((a0, .inr (7, [.ref a4, g16, g17, .ref a5, g18, g19, g20, .ref a6, .int x_x.1, .int x_x.2])) :: bX6 a4 up kp p_p (bX4 a5 un kn n_n ((a6, .inr (1, [.ref a7, .int y_y.1, .int y_y.2.1, .ref a8])) :: bX4 a7 un2 kn2 n2_n ([(a8, .inl (cB25, 6, .inl y_y.2.2))])))) sz) ((a0, .inr (7, [.ref a4, g16, g17, .ref a5, g18, g19, g20, .ref a6, .int out.2.1.1, .int out.2.1.2])) :: bX6 a4 up kp p_p (bX4 a5 un kn n_n ((a6, .inr (1, [.ref a7, .int out.2.2.1.1, .int out.2.2.1.2.1, .ref a8])) :: bX4 a7 un2 kn2 out.2.2.2 ([(a8, .inl (cB25, 6, .inl out.2.2.1.2.2))])))) [] t) (va_A ((a0, .inr (7, [.ref a4, g16, g17, .ref a5, g18, g19, g20, .ref a6, .int x_x.1, .int x_x.2])) :: bX6 a4 up kp p_p (bX4 a5 un kn n_n ((a6, .inr (1, [.ref a7, .int y_y.1, .int y_y.2.1, .ref a8])) :: bX4 a7 un2 kn2 n2_n ([(a8, .inl (cB25, 6, .inl y_y.2.2))])))) sz)) 0 0 (va_A ((a0, .inr (7, [.ref a4, g16, g17, .ref a5, g18, g19, g20, .ref a6, .int x_x.1, .int x_x.2])) :: bX6 a4 up kp p_p (bX4 a5 un kn n_n ((a6, .inr (1, [.ref a7, .int y_y.1, .int y_y.2.1, .ref a8])) :: bX4 a7 un2 kn2 n2_n ([(a8, .inl (cB25, 6, .inl y_y.2.2))])))) sz) := by
  refine Met.ofW (cc := cX10_landedIn) (maxL := 5) (ret := (some .int)) (by decide) rfl ?_
  intro p e s m args below meth c s₁ B0 hml hv
  obtain ⟨rfl, hsz, hP, hK, hD0, hN⟩ := hv
  have hx := B0.exec
  have hb := B0.bytes
  have hr := B0.returns
  have hts := atoms_spec (ws := vfX10_landedIn) B0.pre
  have hown : s.vm.findClass RX10 = some m.cls := findClass_of_methodNamed B0.named
  have hlocks := B0.notSynchronized
  subst hsz
  have hD := hD0.self (sz := s.heap.size)
  generalize hAe : va_A ((a0, .inr (7, [.ref a4, g16, g17, .ref a5, g18, g19, g20, .ref a6, .int x_x.1, .int x_x.2])) :: bX6 a4 up kp p_p (bX4 a5 un kn n_n ((a6, .inr (1, [.ref a7, .int y_y.1, .int y_y.2.1, .ref a8])) :: bX4 a7 un2 kn2 n2_n ([(a8, .inl (cB25, 6, .inl y_y.2.2))])))) s.heap.size = A at hD ⊢
  have hA : ∀ q : Nat, s.heap.size ≤ q → A q := fun q h => by rw [← hAe]; exact Or.inr h
  have hS : va_S A s.heap s.heap [] := va_S.rf
  have hP : va_P (dC, dI) vwCl ((a0, .inr (7, [.ref a4, g16, g17, .ref a5, g18, g19, g20, .ref a6, .int x_x.1, .int x_x.2])) :: bX6 a4 up kp p_p (bX4 a5 un kn n_n ((a6, .inr (1, [.ref a7, .int y_y.1, .int y_y.2.1, .ref a8])) :: bX4 a7 un2 kn2 n2_n ([(a8, .inl (cB25, 6, .inl y_y.2.2))])))) s.heap := hP
  have hl := lv_entry ([.ref a0, .int k1, .int k2, .int k3]) (n := 5) (Nat.le_of_ble_eq_true rfl)
  rw [lg_entry_eq]
  generalize (lg_sl ([.ref a0, .int k1, .int k2, .int k3]) ++ List.replicate (5 - (lg_sl ([.ref a0, .int k1, .int k2, .int k3])).length) Slot.unset).toArray = ls at hl ⊢
  have hl : lv_has ls 5 [(0, .ref a0), (1, .int k1), (2, .int k2), (3, .int k3)] := hl
  refine W_q (fun QQ hQQ => ?_)
  rw [f_X10_landedIn] at h
  refine lv_aload_n hx hb dX10_landedIn_0 rfl (lv_at hl 0 rfl) ?_
  refine lv_iload_n hx hb dX10_landedIn_1 rfl (lv_at hl 1 rfl) ?_
  obtain ⟨o2, eo2⟩ : ∃ o, o = f_X10_answerTrouble k1 p_p := ⟨_, rfl⟩
  have h := nm_of h o2 eo2
  refine cl_i (wc := ((a0, .inr (7, [.ref a4, g16, g17, .ref a5, g18, g19, g20, .ref a6, .int x_x.1, .int x_x.2])) :: bX6 a4 up kp p_p [])) (wr := (bX4 a5 un kn n_n ((a6, .inr (1, [.ref a7, .int y_y.1, .int y_y.2.1, .ref a8])) :: bX4 a7 un2 kn2 n2_n ([(a8, .inl (cB25, 6, .inl y_y.2.2))])))) (va_runV (As := [.int k1]) (rest := []) ⟨hx, hb, hml, hown, hts⟩ (kfX10_answerTrouble l dC dI a0 k1 a4 up kp (g16) (g17) (.ref a5) (g18) (g19) (g20) (.ref a6) (.int x_x.1) (.int x_x.2) p_p s.heap.size o2 eo2.symm) (cwV 1 hts gfX10_landedIn_0 rfl rfl rfl (by decide +kernel) ⟨(Nat.le_of_ble_eq_true rfl), (Nat.le_of_ble_eq_true rfl)⟩) (PV (hP.sub (ws' := ((a0, .inr (7, [.ref a4, g16, g17, .ref a5, g18, g19, g20, .ref a6, .int x_x.1, .int x_x.2])) :: bX6 a4 up kp p_p [])) [0, 1, 2, 3, 4, 5, 6, 7, 8, 9, 10] rfl) (hK.sub (tys' := (tX6 kp ([]))) [0, 1, 2, 3, 4, 5, 6, 7, 8] rfl) (hD.sub (ws' := ((a0, .inr (7, [.ref a4, g16, g17, .ref a5, g18, g19, g20, .ref a6, .int x_x.1, .int x_x.2])) :: bX6 a4 up kp p_p [])) [0, 1, 2, 3, 4, 5, 6, 7, 8, 9, 10] (by decide) rfl) hN 0 rfl rfl) rfl rfl hl.1 rfl (lv_room (Nat.le_of_ble_eq_true rfl)) dX10_landedIn_2 ⟨(Nat.le_of_ble_eq_true rfl), (Nat.le_of_ble_eq_true rfl)⟩) hP hD hK hS hA [0, 1, 2, 3, 4, 5, 6, 7, 8, 9, 10] [11, 12, 13, 14, 15, 16, 17, 18, 19, 20, 21, 22] rfl rfl (by decide) (by decide) (fun r2 _ H locs hw hP hD _ hS => ?_)
  obtain rfl := hw.symm
  have hP : va_P (dC, dI) vwCl (bX4 a5 un kn n_n ((a6, .inr (1, [.ref a7, .int y_y.1, .int y_y.2.1, .ref a8])) :: bX4 a7 un2 kn2 n2_n ((a8, .inl (cB25, 6, .inl y_y.2.2)) :: (a0, .inr (7, [.ref a4, g16, g17, .ref a5, g18, g19, g20, .ref a6, .int x_x.1, .int x_x.2])) :: bX6 a4 up kp p_p []))) H := hP
  have hD : va_D A (bX4 a5 un kn n_n ((a6, .inr (1, [.ref a7, .int y_y.1, .int y_y.2.1, .ref a8])) :: bX4 a7 un2 kn2 n2_n ((a8, .inl (cB25, 6, .inl y_y.2.2)) :: (a0, .inr (7, [.ref a4, g16, g17, .ref a5, g18, g19, g20, .ref a6, .int x_x.1, .int x_x.2])) :: bX6 a4 up kp p_p []))) := hD
  refine lv_istore (lv' := [(4, .int o2), (0, .ref a0), (1, .int k1), (2, .int k2), (3, .int k3)]) hx hb dX10_landedIn_5 hl (by decide) rfl (fun ls hl => ?_)
  refine lv_aload_n hx hb dX10_landedIn_7 rfl (lv_at hl 1 rfl) ?_
  refine lv_iload hx hb dX10_landedIn_8 (lv_at hl 0 rfl) ?_
  have J27 : ∀ (v27_t1 : Int32) (H : Heap) (locs : List Loc) (ls : Array Slot), f_X10_landedIn_J27 k1 k2 k3 x_x p_p n_n y_y n2_n v27_t1 = some out → va_P (dC, dI) vwCl (bX4 a5 un kn n_n ((a6, .inr (1, [.ref a7, .int y_y.1, .int y_y.2.1, .ref a8])) :: bX4 a7 un2 kn2 n2_n ((a8, .inl (cB25, 6, .inl y_y.2.2)) :: (a0, .inr (7, [.ref a4, g16, g17, .ref a5, g18, g19, g20, .ref a6, .int x_x.1, .int x_x.2])) :: bX6 a4 up kp p_p []))) H → va_D A (bX4 a5 un kn n_n ((a6, .inr (1, [.ref a7, .int y_y.1, .int y_y.2.1, .ref a8])) :: bX4 a7 un2 kn2 n2_n ((a8, .inl (cB25, 6, .inl y_y.2.2)) :: (a0, .inr (7, [.ref a4, g16, g17, .ref a5, g18, g19, g20, .ref a6, .int x_x.1, .int x_x.2])) :: bX6 a4 up kp p_p []))) → va_S A s.heap H locs → lv_has ls 5 [(0, .ref a0), (1, .int k1), (2, .int k2), (3, .int k3)] → W p l e (headSpec vfX10_landedIn { frames := 6, cells := 0, slots := 0, locals := 143 }).room s m ([.ref a0, .int k1, .int k2, .int k3]).toArray below meth c H locs 0 0 QQ (F0 m 27 ls [.int v27_t1, .ref a0]) := by
    intro v27_t1 H locs ls h  hP hD hS hl
    rw [f_X10_landedIn_J27] at h
    obtain ⟨o27, eo27⟩ : ∃ o, o = f_X10_refused v27_t1 x_x := ⟨_, rfl⟩
    have h := nm_of h o27 eo27
    refine cl_i (wc := ([(a0, .inr (7, [.ref a4, g16, g17, .ref a5, g18, g19, g20, .ref a6, .int x_x.1, .int x_x.2]))])) (wr := (bX4 a5 un kn n_n ((a6, .inr (1, [.ref a7, .int y_y.1, .int y_y.2.1, .ref a8])) :: bX4 a7 un2 kn2 n2_n ((a8, .inl (cB25, 6, .inl y_y.2.2)) :: bX6 a4 up kp p_p [])))) (va_runV (As := [.int v27_t1]) (rest := []) ⟨hx, hb, hml, hown, hts⟩ (kfX10_refused l dC dI a0 v27_t1 x_x (.ref a4) (g16) (g17) (.ref a5) (g18) (g19) (g20) (.ref a6) H.size o27 eo27.symm) (cwV 1 hts gfX10_landedIn_1 rfl rfl rfl (by decide +kernel) ⟨(Nat.le_of_ble_eq_true rfl), (Nat.le_of_ble_eq_true rfl)⟩) (PV (hP.sub (ws' := ([(a0, .inr (7, [.ref a4, g16, g17, .ref a5, g18, g19, g20, .ref a6, .int x_x.1, .int x_x.2]))])) [12] rfl) (hK.sub (tys' := ([])) [] rfl) (hD.sub (ws' := ([(a0, .inr (7, [.ref a4, g16, g17, .ref a5, g18, g19, g20, .ref a6, .int x_x.1, .int x_x.2]))])) [12] (by decide) rfl) hN 0 rfl rfl) rfl rfl hl.1 rfl (lv_room (Nat.le_of_ble_eq_true rfl)) dX10_landedIn_27 ⟨(Nat.le_of_ble_eq_true rfl), (Nat.le_of_ble_eq_true rfl)⟩) hP hD hK hS hA [12] [0, 1, 2, 3, 4, 5, 6, 7, 8, 9, 10, 11, 13, 14, 15, 16, 17, 18, 19, 20, 21, 22] rfl rfl (by decide) (by decide) (fun r27 _ H locs hw hP hD _ hS => ?_)
    obtain ⟨hw, br27⟩ := hw
    obtain rfl := hw
    have hP : va_P (dC, dI) vwCl (bX4 a5 un kn n_n ((a6, .inr (1, [.ref a7, .int y_y.1, .int y_y.2.1, .ref a8])) :: bX4 a7 un2 kn2 n2_n ((a8, .inl (cB25, 6, .inl y_y.2.2)) :: bX6 a4 up kp p_p ([(a0, .inr (7, [.ref a4, g16, g17, .ref a5, g18, g19, g20, .ref a6, .int o27.2.1, .int o27.2.2]))])))) H := hP
    have hD : va_D A (bX4 a5 un kn n_n ((a6, .inr (1, [.ref a7, .int y_y.1, .int y_y.2.1, .ref a8])) :: bX4 a7 un2 kn2 n2_n ((a8, .inl (cB25, 6, .inl y_y.2.2)) :: bX6 a4 up kp p_p ([(a0, .inr (7, [.ref a4, g16, g17, .ref a5, g18, g19, g20, .ref a6, .int o27.2.1, .int o27.2.2]))])))) := hD
    refine lv_if_eq (tgt := 35) hx hb dX10_landedIn_30 (by decide) (fun c30 => ?_) (fun c30 => ?_)
    · have h := (if_pos c30).symm.trans h
      refine lv_aload_n hx hb dX10_landedIn_35 rfl (lv_at hl 0 rfl) ?_
      refine va_get (D := (dC, dI)) (ci := 7) (v := .ref a6) (C := RX10) (T := TX10) (N := 10) hx hb hts ifX10_landedIn_X10 hown hK hP 22 rfl rfl 7 (by decide) (hts (.fieldLink RX10 57 "HookPier" "days" "LHookPier$Days;") (List.mem_of_getElem? (i := 8) rfl)) (fun _ h9 => h9) rfl dX10_landedIn_36 ?_
      refine lv_aload_n hx hb dX10_landedIn_39 rfl (lv_at hl 0 rfl) ?_
      refine va_get (D := (dC, dI)) (ci := 7) (v := .ref a4) (C := RX10) (T := TX10) (N := 10) hx hb hts ifX10_landedIn_X10 hown hK hP 22 rfl rfl 0 (by decide) (hts (.fieldLink RX10 10 "HookPier" "plan" "LHookPier$Plan;") (List.mem_of_getElem? (i := 9) rfl)) (fun _ h9 => h9) rfl dX10_landedIn_40 ?_
      refine lv_aload_n hx hb dX10_landedIn_43 rfl (lv_at hl 0 rfl) ?_
      refine va_get (D := (dC, dI)) (ci := 7) (v := .ref a5) (C := RX10) (T := TX10) (N := 10) hx hb hts ifX10_landedIn_X10 hown hK hP 22 rfl rfl 3 (by decide) (hts (.fieldLink RX10 29 "HookPier" "now" "LHookPier$Now;") (List.mem_of_getElem? (i := 10) rfl)) (fun _ h9 => h9) rfl dX10_landedIn_44 ?_
      refine lv_iload_n hx hb dX10_landedIn_47 rfl (lv_at hl 2 rfl) ?_
      refine lv_iload_n hx hb dX10_landedIn_48 rfl (lv_at hl 3 rfl) ?_
      obtain ⟨o49, eo49, h⟩ := bd_of h
      refine cl_v (wc := ((a6, .inr (1, [.ref a7, .int y_y.1, .int y_y.2.1, .ref a8])) :: bX6 a4 up kp p_p (bX4 a5 un kn n_n (bX4 a7 un2 kn2 n2_n ([(a8, .inl (cB25, 6, .inl y_y.2.2))]))))) (wr := ([(a0, .inr (7, [.ref a4, g16, g17, .ref a5, g18, g19, g20, .ref a6, .int o27.2.1, .int o27.2.2]))])) (va_runV (As := [.ref a4, .ref a5, .int k2, .int k3]) (rest := []) ⟨hx, hb, hml, hown, hts⟩ (kfX1_forecast l dC dI a6 a4 a5 k2 k3 a7 a8 up kp un kn un2 kn2 y_y p_p n_n n2_n cB25 H.size o49 eo49) (cwV 4 hts gfX10_landedIn_2 rfl rfl rfl (by decide +kernel) ⟨(Nat.le_of_ble_eq_true rfl), (Nat.le_of_ble_eq_true rfl)⟩) (PV (hP.sub (ws' := ((a6, .inr (1, [.ref a7, .int y_y.1, .int y_y.2.1, .ref a8])) :: bX6 a4 up kp p_p (bX4 a5 un kn n_n (bX4 a7 un2 kn2 n2_n ([(a8, .inl (cB25, 6, .inl y_y.2.2))]))))) [5, 12, 13, 14, 15, 16, 17, 18, 19, 20, 21, 0, 1, 2, 3, 4, 6, 7, 8, 9, 10, 11] rfl) (hK.sub (tys' := (tX6 kp (tX4 kn (tX4 kn2 ((cB25, .int) :: []))))) [0, 1, 2, 3, 4, 5, 6, 7, 8, 9, 10, 11, 12, 13, 14, 15, 16, 17] rfl) (hD.sub (ws' := ((a6, .inr (1, [.ref a7, .int y_y.1, .int y_y.2.1, .ref a8])) :: bX6 a4 up kp p_p (bX4 a5 un kn n_n (bX4 a7 un2 kn2 n2_n ([(a8, .inl (cB25, 6, .inl y_y.2.2))]))))) [5, 12, 13, 14, 15, 16, 17, 18, 19, 20, 21, 0, 1, 2, 3, 4, 6, 7, 8, 9, 10, 11] (by decide) rfl) hN 0 rfl rfl) rfl rfl hl.1 rfl (lv_room (Nat.le_of_ble_eq_true rfl)) dX10_landedIn_49 ⟨(Nat.le_of_ble_eq_true rfl), (Nat.le_of_ble_eq_true rfl)⟩) hP hD hK hS hA [5, 12, 13, 14, 15, 16, 17, 18, 19, 20, 21, 0, 1, 2, 3, 4, 6, 7, 8, 9, 10, 11] [22] rfl rfl (by decide) (by decide) (fun _ H locs hw hP hD _ hS => ?_)
      have hP : va_P (dC, dI) vwCl ((a0, .inr (7, [.ref a4, g16, g17, .ref a5, g18, g19, g20, .ref a6, .int o27.2.1, .int o27.2.2])) :: (a6, .inr (1, [.ref a7, .int o49.1.1, .int o49.1.2.1, .ref a8])) :: bX6 a4 up kp p_p (bX4 a5 un kn n_n (bX4 a7 un2 kn2 o49.2 ([(a8, .inl (cB25, 6, .inl o49.1.2.2))])))) H := hP
      have hD : va_D A ((a0, .inr (7, [.ref a4, g16, g17, .ref a5, g18, g19, g20, .ref a6, .int o27.2.1, .int o27.2.2])) :: (a6, .inr (1, [.ref a7, .int o49.1.1, .int o49.1.2.1, .ref a8])) :: bX6 a4 up kp p_p (bX4 a5 un kn n_n (bX4 a7 un2 kn2 o49.2 ([(a8, .inl (cB25, 6, .inl o49.1.2.2))])))) := hD
      refine lv_aload_n hx hb dX10_landedIn_52 rfl (lv_at hl 0 rfl) ?_
      refine va_get (D := (dC, dI)) (ci := 7) (v := .ref a6) (C := RX10) (T := TX10) (N := 10) hx hb hts ifX10_landedIn_X10 hown hK hP 0 rfl rfl 7 (by decide) (hts (.fieldLink RX10 57 "HookPier" "days" "LHookPier$Days;") (List.mem_of_getElem? (i := 8) rfl)) (fun _ h9 => h9) rfl dX10_landedIn_53 ?_
      refine va_get (D := (dC, dI)) (ci := 1) (v := .ref a8) (C := RX1) (T := TX1) (N := 4) hx hb hts ifX10_landedIn_X1 hown hK hP 1 rfl rfl 3 (by decide) (hts (.fieldLink RX10 331 "HookPier$Days" "landedInDay" "[I") (List.mem_of_getElem? (i := 15) rfl)) (fun _ h9 => h9) rfl dX10_landedIn_56 ?_
      refine lv_iload_n hx hb dX10_landedIn_59 rfl (lv_at hl 1 rfl) ?_
      obtain ⟨hg60, h⟩ := gA_of h
      refine va_iald hx hb hK hP 22 17 rfl rfl hg60 dX10_landedIn_60 ?_
      obtain rfl := Option.some.inj h
      have hP9 := hP.sub (ws' := ((a0, .inr (7, [.ref a4, g16, g17, .ref a5, g18, g19, g20, .ref a6, .int o27.2.1, .int o27.2.2])) :: bX6 a4 up kp p_p (bX4 a5 un kn n_n ((a6, .inr (1, [.ref a7, .int o49.1.1, .int o49.1.2.1, .ref a8])) :: bX4 a7 un2 kn2 o49.2 ([(a8, .inl (cB25, 6, .inl o49.1.2.2))]))))) [0, 2, 3, 4, 5, 6, 7, 8, 9, 10, 11, 12, 13, 14, 15, 16, 1, 17, 18, 19, 20, 21, 22] rfl
      have hD9 := hD.sub (ws' := ((a0, .inr (7, [.ref a4, g16, g17, .ref a5, g18, g19, g20, .ref a6, .int o27.2.1, .int o27.2.2])) :: bX6 a4 up kp p_p (bX4 a5 un kn n_n ((a6, .inr (1, [.ref a7, .int o49.1.1, .int o49.1.2.1, .ref a8])) :: bX4 a7 un2 kn2 o49.2 ([(a8, .inl (cB25, 6, .inl o49.1.2.2))]))))) [0, 2, 3, 4, 5, 6, 7, 8, 9, 10, 11, 12, 13, 14, 15, 16, 1, 17, 18, 19, 20, 21, 22] (by decide) rfl
      have hK9 := hK.sub (tys' := []) [] rfl
      rw [hQQ]
      exact W.iret (v := (o49.1.2.2 (k1).toNatClampNeg)) hx hb hr (fun t ht hW => ⟨⟨(o49.1.2.2 (k1).toNatClampNeg), (), rfl, rfl, by rw [ht]; exact hP9, va_K.moved hW.alike hK9, hD9⟩, hS.F ht⟩) hS.2.2 dX10_landedIn_61
    · have h := (if_neg c30).symm.trans h
      refine lv_iconst (v := (-1)) hx hb dX10_landedIn_33 (by decide) ?_
      obtain rfl := Option.some.inj h
      have hP9 := hP.sub (ws' := ((a0, .inr (7, [.ref a4, g16, g17, .ref a5, g18, g19, g20, .ref a6, .int o27.2.1, .int o27.2.2])) :: bX6 a4 up kp p_p (bX4 a5 un kn n_n ((a6, .inr (1, [.ref a7, .int y_y.1, .int y_y.2.1, .ref a8])) :: bX4 a7 un2 kn2 n2_n ([(a8, .inl (cB25, 6, .inl y_y.2.2))]))))) [22, 12, 13, 14, 15, 16, 17, 18, 19, 20, 21, 0, 1, 2, 3, 4, 5, 6, 7, 8, 9, 10, 11] rfl
      have hD9 := hD.sub (ws' := ((a0, .inr (7, [.ref a4, g16, g17, .ref a5, g18, g19, g20, .ref a6, .int o27.2.1, .int o27.2.2])) :: bX6 a4 up kp p_p (bX4 a5 un kn n_n ((a6, .inr (1, [.ref a7, .int y_y.1, .int y_y.2.1, .ref a8])) :: bX4 a7 un2 kn2 n2_n ([(a8, .inl (cB25, 6, .inl y_y.2.2))]))))) [22, 12, 13, 14, 15, 16, 17, 18, 19, 20, 21, 0, 1, 2, 3, 4, 5, 6, 7, 8, 9, 10, 11] (by decide) rfl
      have hK9 := hK.sub (tys' := []) [] rfl
      rw [hQQ]
      exact W.iret (v := (-1 : Int32)) hx hb hr (fun t ht hW => ⟨⟨(-1 : Int32), (), rfl, rfl, by rw [ht]; exact hP9, va_K.moved hW.alike hK9, hD9⟩, hS.F ht⟩) hS.2.2 dX10_landedIn_34
  refine lv_if_ne (tgt := 25) hx hb dX10_landedIn_10 (by decide) (fun c10 => ?_) (fun c10 => ?_)
  · have h := (if_neg c10).symm.trans h
    refine lv_iload hx hb dX10_landedIn_25 (lv_at hl 0 rfl) ?_
    exact J27 o2 H _ ls h  hP hD hS (lv_sub hl [1, 2, 3, 4] rfl)
  · have h := (if_pos c10).symm.trans h
    refine lv_aload_n hx hb dX10_landedIn_13 rfl (lv_at hl 1 rfl) ?_
    refine lv_iload_n hx hb dX10_landedIn_14 rfl (lv_at hl 3 rfl) ?_
    refine lv_iload_n hx hb dX10_landedIn_15 rfl (lv_at hl 4 rfl) ?_
    obtain ⟨o16, eo16⟩ : ∃ o, o = f_X10_isForecast k2 k3 := ⟨_, rfl⟩
    have h := nm_of h o16 eo16
    refine cl_i (wc := []) (wr := (bX4 a5 un kn n_n ((a6, .inr (1, [.ref a7, .int y_y.1, .int y_y.2.1, .ref a8])) :: bX4 a7 un2 kn2 n2_n ((a8, .inl (cB25, 6, .inl y_y.2.2)) :: (a0, .inr (7, [.ref a4, g16, g17, .ref a5, g18, g19, g20, .ref a6, .int x_x.1, .int x_x.2])) :: bX6 a4 up kp p_p [])))) (va_runS (As := [.int k2, .int k3]) (rest := [.ref a0, .ref a0]) ⟨hx, hb, hml, hown, hts⟩ (kfX10_isForecast l dC dI k2 k3 H.size o16 eo16.symm) (va_cwS 2 hts gfX10_landedIn_3 rfl rfl rfl (by decide +kernel) ⟨(Nat.le_of_ble_eq_true rfl), (Nat.le_of_ble_eq_true rfl)⟩) (PS (hP.sub (ws' := []) [] rfl) (hK.sub (tys' := ([])) [] rfl) (hD.sub (ws' := []) [] (by decide) rfl) hN) rfl rfl hl.1 rfl (lv_room (Nat.le_of_ble_eq_true rfl)) dX10_landedIn_16 ⟨(Nat.le_of_ble_eq_true rfl), (Nat.le_of_ble_eq_true rfl)⟩) hP hD hK hS hA [] [0, 1, 2, 3, 4, 5, 6, 7, 8, 9, 10, 11, 12, 13, 14, 15, 16, 17, 18, 19, 20, 21, 22] rfl rfl (by decide) (by decide) (fun r16 _ H locs hw hP hD _ hS => ?_)
    obtain ⟨hw, br16⟩ := hw
    obtain rfl := hw.symm
    have hP : va_P (dC, dI) vwCl (bX4 a5 un kn n_n ((a6, .inr (1, [.ref a7, .int y_y.1, .int y_y.2.1, .ref a8])) :: bX4 a7 un2 kn2 n2_n ((a8, .inl (cB25, 6, .inl y_y.2.2)) :: (a0, .inr (7, [.ref a4, g16, g17, .ref a5, g18, g19, g20, .ref a6, .int x_x.1, .int x_x.2])) :: bX6 a4 up kp p_p []))) H := hP
    have hD : va_D A (bX4 a5 un kn n_n ((a6, .inr (1, [.ref a7, .int y_y.1, .int y_y.2.1, .ref a8])) :: bX4 a7 un2 kn2 n2_n ((a8, .inl (cB25, 6, .inl y_y.2.2)) :: (a0, .inr (7, [.ref a4, g16, g17, .ref a5, g18, g19, g20, .ref a6, .int x_x.1, .int x_x.2])) :: bX6 a4 up kp p_p []))) := hD
    obtain ⟨o19, eo19⟩ : ∃ o, o = f_X10_numberTrouble o16 p_p := ⟨_, rfl⟩
    have h := nm_of h o19 eo19
    refine cl_i (wc := ((a0, .inr (7, [.ref a4, g16, g17, .ref a5, g18, g19, g20, .ref a6, .int x_x.1, .int x_x.2])) :: bX6 a4 up kp p_p [])) (wr := (bX4 a5 un kn n_n ((a6, .inr (1, [.ref a7, .int y_y.1, .int y_y.2.1, .ref a8])) :: bX4 a7 un2 kn2 n2_n ([(a8, .inl (cB25, 6, .inl y_y.2.2))])))) (va_runV (As := [.int o16]) (rest := [.ref a0]) ⟨hx, hb, hml, hown, hts⟩ (kfX10_numberTrouble l dC dI a0 o16 a4 up kp (g16) (g17) (.ref a5) (g18) (g19) (g20) (.ref a6) (.int x_x.1) (.int x_x.2) p_p H.size o19 eo19.symm) (cwV 1 hts gfX10_landedIn_4 rfl rfl rfl (by decide +kernel) ⟨(Nat.le_of_ble_eq_true rfl), (Nat.le_of_ble_eq_true rfl)⟩) (PV (hP.sub (ws' := ((a0, .inr (7, [.ref a4, g16, g17, .ref a5, g18, g19, g20, .ref a6, .int x_x.1, .int x_x.2])) :: bX6 a4 up kp p_p [])) [12, 13, 14, 15, 16, 17, 18, 19, 20, 21, 22] rfl) (hK.sub (tys' := (tX6 kp ([]))) [0, 1, 2, 3, 4, 5, 6, 7, 8] rfl) (hD.sub (ws' := ((a0, .inr (7, [.ref a4, g16, g17, .ref a5, g18, g19, g20, .ref a6, .int x_x.1, .int x_x.2])) :: bX6 a4 up kp p_p [])) [12, 13, 14, 15, 16, 17, 18, 19, 20, 21, 22] (by decide) rfl) hN 0 rfl rfl) rfl rfl hl.1 rfl (lv_room (Nat.le_of_ble_eq_true rfl)) dX10_landedIn_19 ⟨(Nat.le_of_ble_eq_true rfl), (Nat.le_of_ble_eq_true rfl)⟩) hP hD hK hS hA [12, 13, 14, 15, 16, 17, 18, 19, 20, 21, 22] [0, 1, 2, 3, 4, 5, 6, 7, 8, 9, 10, 11] rfl rfl (by decide) (by decide) (fun r19 _ H locs hw hP hD _ hS => ?_)
    obtain rfl := hw.symm
    have hP : va_P (dC, dI) vwCl (bX4 a5 un kn n_n ((a6, .inr (1, [.ref a7, .int y_y.1, .int y_y.2.1, .ref a8])) :: bX4 a7 un2 kn2 n2_n ((a8, .inl (cB25, 6, .inl y_y.2.2)) :: (a0, .inr (7, [.ref a4, g16, g17, .ref a5, g18, g19, g20, .ref a6, .int x_x.1, .int x_x.2])) :: bX6 a4 up kp p_p []))) H := hP
    have hD : va_D A (bX4 a5 un kn n_n ((a6, .inr (1, [.ref a7, .int y_y.1, .int y_y.2.1, .ref a8])) :: bX4 a7 un2 kn2 n2_n ((a8, .inl (cB25, 6, .inl y_y.2.2)) :: (a0, .inr (7, [.ref a4, g16, g17, .ref a5, g18, g19, g20, .ref a6, .int x_x.1, .int x_x.2])) :: bX6 a4 up kp p_p []))) := hD
    refine lv_goto (tgt := 27) hx hb dX10_landedIn_22 (by decide) ?_
    exact J27 o19 H _ ls h  hP hD hS (lv_sub hl [1, 2, 3, 4] rfl)
