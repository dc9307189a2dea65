theorem dX12_leaves_0 : decode cX12_leaves 0 = .ok (.iconst 0, 1) := by decide +kernel
theorem dX12_leaves_1 : decode cX12_leaves 1 = .ok (.istore_n 2, 1) := by decide +kernel
theorem dX12_leaves_10 : decode cX12_leaves 10 = .ok (.getfield 299, 3) := by decide +kernel
theorem dX12_leaves_100 : decode cX12_leaves 100 = .ok (.iload_n 3, 1) := by decide +kernel
theorem dX12_leaves_101 : decode cX12_leaves 101 = .ok (.ireturn, 1) := by decide +kernel
theorem dX12_leaves_13 : decode cX12_leaves 13 = .ok (.invokevirtual 374, 3) := by decide +kernel
theorem dX12_leaves_16 : decode cX12_leaves 16 = .ok (.if_icmp .ge 75, 3) := by decide +kernel
theorem dX12_leaves_19 : decode cX12_leaves 19 = .ok (.aload_n 0, 1) := by decide +kernel
theorem dX12_leaves_2 : decode cX12_leaves 2 = .ok (.iconst 0, 1) := by decide +kernel
theorem dX12_leaves_20 : decode cX12_leaves 20 = .ok (.iload 4, 2) := by decide +kernel
theorem dX12_leaves_22 : decode cX12_leaves 22 = .ok (.invokevirtual 420, 3) := by decide +kernel
theorem dX12_leaves_25 : decode cX12_leaves 25 = .ok (.ifCond .ne 6, 3) := by decide +kernel
theorem dX12_leaves_28 : decode cX12_leaves 28 = .ok (.goto 57, 3) := by decide +kernel
theorem dX12_leaves_3 : decode cX12_leaves 3 = .ok (.istore_n 3, 1) := by decide +kernel
theorem dX12_leaves_31 : decode cX12_leaves 31 = .ok (.aload_n 0, 1) := by decide +kernel
theorem dX12_leaves_32 : decode cX12_leaves 32 = .ok (.getfield 299, 3) := by decide +kernel
theorem dX12_leaves_35 : decode cX12_leaves 35 = .ok (.aload_n 0, 1) := by decide +kernel
theorem dX12_leaves_36 : decode cX12_leaves 36 = .ok (.iload 4, 2) := by decide +kernel
theorem dX12_leaves_38 : decode cX12_leaves 38 = .ok (.invokevirtual 307, 3) := by decide +kernel
theorem dX12_leaves_4 : decode cX12_leaves 4 = .ok (.iconst 0, 1) := by decide +kernel
theorem dX12_leaves_41 : decode cX12_leaves 41 = .ok (.aload_n 0, 1) := by decide +kernel
theorem dX12_leaves_42 : decode cX12_leaves 42 = .ok (.iload 4, 2) := by decide +kernel
theorem dX12_leaves_44 : decode cX12_leaves 44 = .ok (.invokevirtual 310, 3) := by decide +kernel
theorem dX12_leaves_47 : decode cX12_leaves 47 = .ok (.aload_n 0, 1) := by decide +kernel
theorem dX12_leaves_48 : decode cX12_leaves 48 = .ok (.iload 4, 2) := by decide +kernel
theorem dX12_leaves_5 : decode cX12_leaves 5 = .ok (.istore 4, 2) := by decide +kernel
theorem dX12_leaves_50 : decode cX12_leaves 50 = .ok (.invokevirtual 313, 3) := by decide +kernel
theorem dX12_leaves_53 : decode cX12_leaves 53 = .ok (.aload_n 0, 1) := by decide +kernel
theorem dX12_leaves_54 : decode cX12_leaves 54 = .ok (.iload_n 1, 1) := by decide +kernel
theorem dX12_leaves_55 : decode cX12_leaves 55 = .ok (.invokevirtual 307, 3) := by decide +kernel
theorem dX12_leaves_58 : decode cX12_leaves 58 = .ok (.aload_n 0, 1) := by decide +kernel
theorem dX12_leaves_59 : decode cX12_leaves 59 = .ok (.iload_n 1, 1) := by decide +kernel
theorem dX12_leaves_60 : decode cX12_leaves 60 = .ok (.invokevirtual 310, 3) := by decide +kernel
theorem dX12_leaves_63 : decode cX12_leaves 63 = .ok (.aload_n 0, 1) := by decide +kernel
theorem dX12_leaves_64 : decode cX12_leaves 64 = .ok (.iload_n 1, 1) := by decide +kernel
theorem dX12_leaves_65 : decode cX12_leaves 65 = .ok (.invokevirtual 313, 3) := by decide +kernel
theorem dX12_leaves_68 : decode cX12_leaves 68 = .ok (.invokevirtual 423, 3) := by decide +kernel
theorem dX12_leaves_7 : decode cX12_leaves 7 = .ok (.iload 4, 2) := by decide +kernel
theorem dX12_leaves_71 : decode cX12_leaves 71 = .ok (.bipush 50, 2) := by decide +kernel
theorem dX12_leaves_73 : decode cX12_leaves 73 = .ok (.if_icmp .lt 9, 3) := by decide +kernel
theorem dX12_leaves_76 : decode cX12_leaves 76 = .ok (.iinc 2 1, 3) := by decide +kernel
theorem dX12_leaves_79 : decode cX12_leaves 79 = .ok (.goto 6, 3) := by decide +kernel
theorem dX12_leaves_82 : decode cX12_leaves 82 = .ok (.iinc 3 1, 3) := by decide +kernel
theorem dX12_leaves_85 : decode cX12_leaves 85 = .ok (.iinc 4 1, 3) := by decide +kernel
theorem dX12_leaves_88 : decode cX12_leaves 88 = .ok (.goto (-81), 3) := by decide +kernel
theorem dX12_leaves_9 : decode cX12_leaves 9 = .ok (.aload_n 0, 1) := by decide +kernel
theorem dX12_leaves_91 : decode cX12_leaves 91 = .ok (.iload_n 2, 1) := by decide +kernel
theorem dX12_leaves_92 : decode cX12_leaves 92 = .ok (.iload_n 3, 1) := by decide +kernel
theorem dX12_leaves_93 : decode cX12_leaves 93 = .ok (.if_icmp .le 7, 3) := by decide +kernel
theorem dX12_leaves_96 : decode cX12_leaves 96 = .ok (.iload_n 2, 1) := by decide +kernel
theorem dX12_leaves_97 : decode cX12_leaves 97 = .ok (.goto 4, 3) := by decide +kernel
def vfX12_leaves : List Cond := List.cons (.code yX12_leaves cX12_leaves 5 (some .int)) (apW [.fieldLink RX12 299 "HookPierModel" "pier" "LHookPierModel$Pier;", .methodLink RX12 374 yX11_questions, .instanceMethod yX11_questions, .selects RX11 yX11_questions yX11_questions, .initialized RX11, .methodLink RX12 420 yX12_isDark, .instanceMethod yX12_isDark, .selects RX12 yX12_isDark yX12_isDark, .initialized RX12, .methodLink RX12 307 yX12_spotOf, .instanceMethod yX12_spotOf, .selects RX12 yX12_spotOf yX12_spotOf, .methodLink RX12 310 yX12_fathomsOf, .instanceMethod yX12_fathomsOf, .selects RX12 yX12_fathomsOf yX12_fathomsOf, .methodLink RX12 313 yX12_baitOf, .instanceMethod yX12_baitOf, .selects RX12 yX12_baitOf yX12_baitOf, .methodLink RX12 423 yX11_darkWish, .instanceMethod yX11_darkWish, .selects RX11 yX11_darkWish yX11_darkWish] (apW wsX120 (apW vfX11_questions (apW vfX12_isDark (apW vfX12_spotOf (apW vfX12_fathomsOf (apW vfX12_baitOf (vfX11_darkWish))))))))
theorem ifX12_leaves_X12 : ∀ w ∈ wsX120, w ∈ vfX12_leaves := fun _ h => (List.mem_cons_of_mem _ (List.mem_append_right _ (List.mem_append_left _ h)))
theorem qfX12_leaves : Good vfX12_leaves := gd_cons (by decide +kernel) (gd_app (gd_dec (by decide +kernel) : Good [.fieldLink RX12 299 "HookPierModel" "pier" "LHookPierModel$Pier;", .methodLink RX12 374 yX11_questions, .instanceMethod yX11_questions, .selects RX11 yX11_questions yX11_questions, .initialized RX11, .methodLink RX12 420 yX12_isDark, .instanceMethod yX12_isDark, .selects RX12 yX12_isDark yX12_isDark, .initialized RX12, .methodLink RX12 307 yX12_spotOf, .instanceMethod yX12_spotOf, .selects RX12 yX12_spotOf yX12_spotOf, .methodLink RX12 310 yX12_fathomsOf, .instanceMethod yX12_fathomsOf, .selects RX12 yX12_fathomsOf yX12_fathomsOf, .methodLink RX12 313 yX12_baitOf, .instanceMethod yX12_baitOf, .selects RX12 yX12_baitOf yX12_baitOf, .methodLink RX12 423 yX11_darkWish, .instanceMethod yX11_darkWish, .selects RX11 yX11_darkWish yX11_darkWish]) (gd_app qsX12 (gd_app qfX11_questions (gd_app qfX12_isDark (gd_app qfX12_spotOf (gd_app qfX12_fathomsOf (gd_app qfX12_baitOf qfX11_darkWish)))))))
theorem gfX12_leaves_0 : GoodIn vfX12_leaves (wsV RX12 374 RX11 yX11_questions vfX11_questions) := goodIn_app (goodIn_r [.methodLink RX12 374 yX11_questions, .instanceMethod yX11_questions, .selects RX11 yX11_questions yX11_questions, .initialized RX11] [2, 3, 4, 5] rfl (by decide +kernel)) (goodIn_m (fun _ h => (List.mem_cons_of_mem _ (List.mem_append_right _ (List.mem_append_right _ (List.mem_append_left _ h))))) qfX11_questions)
theorem gfX12_leaves_1 : GoodIn vfX12_leaves (wsV RX12 420 RX12 yX12_isDark vfX12_isDark) := goodIn_app (goodIn_r [.methodLink RX12 420 yX12_isDark, .instanceMethod yX12_isDark, .selects RX12 yX12_isDark yX12_isDark, .initialized RX12] [6, 7, 8, 9] rfl (by decide +kernel)) (goodIn_m (fun _ h => (List.mem_cons_of_mem _ (List.mem_append_right _ (List.mem_append_right _ (List.mem_append_right _ (List.mem_append_left _ h)))))) qfX12_isDark)
theorem gfX12_leaves_2 : GoodIn vfX12_leaves (wsV RX12 307 RX12 yX12_spotOf vfX12_spotOf) := goodIn_app (goodIn_r [.methodLink RX12 307 yX12_spotOf, .instanceMethod yX12_spotOf, .selects RX12 yX12_spotOf yX12_spotOf, .initialized RX12] [10, 11, 12, 9] rfl (by decide +kernel)) (goodIn_m (fun _ h => (List.mem_cons_of_mem _ (List.mem_append_right _ (List.mem_append_right _ (List.mem_append_right _ (List.mem_append_right _ (List.mem_append_left _ h))))))) qfX12_spotOf)
theorem gfX12_leaves_3 : GoodIn vfX12_leaves (wsV RX12 310 RX12 yX12_fathomsOf vfX12_fathomsOf) := goodIn_app (goodIn_r [.methodLink RX12 310 yX12_fathomsOf, .instanceMethod yX12_fathomsOf, .selects RX12 yX12_fathomsOf yX12_fathomsOf, .initialized RX12] [13, 14, 15, 9] rfl (by decide +kernel)) (goodIn_m (fun _ h => (List.mem_cons_of_mem _ (List.mem_append_right _ (List.mem_append_right _ (List.mem_append_right _ (List.mem_append_right _ (List.mem_append_right _ (List.mem_append_left _ h)))))))) qfX12_fathomsOf)
theorem gfX12_leaves_4 : GoodIn vfX12_leaves (wsV RX12 313 RX12 yX12_baitOf vfX12_baitOf) := goodIn_app (goodIn_r [.methodLink RX12 313 yX12_baitOf, .instanceMethod yX12_baitOf, .selects RX12 yX12_baitOf yX12_baitOf, .initialized RX12] [16, 17, 18, 9] rfl (by decide +kernel)) (goodIn_m (fun _ h => (List.mem_cons_of_mem _ (List.mem_append_right _ (List.mem_append_right _ (List.mem_append_right _ (List.mem_append_right _ (List.mem_append_right _ (List.mem_append_right _ (List.mem_append_left _ h))))))))) qfX12_baitOf)
theorem gfX12_leaves_5 : GoodIn vfX12_leaves (wsV RX12 423 RX11 yX11_darkWish vfX11_darkWish) := goodIn_app (goodIn_r [.methodLink RX12 423 yX11_darkWish, .instanceMethod yX11_darkWish, .selects RX11 yX11_darkWish yX11_darkWish, .initialized RX11] [19, 20, 21, 5] rfl (by decide +kernel)) (goodIn_m (fun _ h => (List.mem_cons_of_mem _ (List.mem_append_right _ (List.mem_append_right _ (List.mem_append_right _ (List.mem_append_right _ (List.mem_append_right _ (List.mem_append_right _ (List.mem_append_right _ h))))))))) qfX11_darkWish)
set_option maxHeartbeats 2000000 in
set_option maxRecDepth 100000 in
theorem kfX12_leaves (l : Launch) (dC : Nat → ClassId) (dI : Nat → Nat → Nat) (a0 : Nat) (k1 : Int32) (a2 : Nat) (uq : Nat → Nat) (kq : Nat → ClassId) (g5 : Value) (g6 : Value) (g7 : Value) (g8 : Value) (g9 : Value) (g10 : Value) (g11 : Value) (g12 : Value) (g13 : Value) (g14 : Value) (g15 : Value) (g16 : Value) (g17 : Value) (g18 : Value) (g19 : Value) (g20 : Value) (g21 : Value) (g22 : Value) (g23 : Value) (g24 : Value) (g25 : Value) (g26 : Value) (g27 : Value) (g28 : Value) (g29 : Value) (g30 : Value) (g31 : Value) (g32 : Value) (g33 : Value) (q_q : TX11_q) (sz : Nat) (out : Int32) (h : f_X12_leaves k1 q_q = some out) : Met l yX12_leaves vfX12_leaves ({ frames := 4, cells := 0, slots := 0, locals := 92 }) (PC (dC, dI) [.ref a0, .int k1] sz ((a0, .inr (9, [g5, g6, g7, .ref a2, g8, g9, g10, g11, g12, g13, g14, g15, g16, g17, g18, g19, g20, g21, g22, g23, g24, g25, g26, g27, g28, g29, g30, g31, g32, g33])) :: bX11 a2 uq kq q_q []) (tX11 kq ([]))) (va_Qi (S := Unit) (fun (r : Int32) _ => r = out) (fun _ t => BC (dC, dI) (va_A ((a0, .inr (9, [g5, g6, g7, .ref a2, g8, g9, g10, g11, g12, g13, g14, g15, g16, g17, g18, g19, g20, g21, g22, g23, g24, g25, g26, g27, g28, g29, g30, g31, g32, g33])) :: bX11 a2 uq kq q_q []) sz) ((a0, .inr (9, [g5, g6, g7, .ref a2, g8, g9, g10, g11, g12, g13, g14, g15, g16, g17, g18, g19, g20, g21, g22, g23, g24, g25, g26, g27, g28, g29, g30, g31, g32, g33])) :: bX11 a2 uq kq q_q []) [] t) (va_A ((a0, .inr (9, [g5, g6, g7, .ref a2, g8, g9, g10, g11, g12, g13, g14, g15, g16, g17, g18, g19, g20, g21, g22, g23, g24, g25, g26, g27, g28, g29, g30, g31, g32, g33])) :: bX11 a2 uq kq q_q []) sz)) 0 0 (va_A ((a0, .inr (9, [g5, g6, g7, .ref a2, g8, g9, g10, g11, g12, g13, g14, g15, g16, g17, g18, g19, g20, g21, g22, g23, g24, g25, g26, g27, g28, g29, g30, g31, g32, g33])) :: bX11 a2 uq kq q_q []) sz) := by
  refine Met.ofW (cc := cX12_leaves) (maxL := 5) (ret := (some .int)) (by decide) rfl ?_
  intro p e s m args below meth c s₁ B0 hml hv
  obtain ⟨rfl, hsz, hP, hK, hD0, hN⟩ := hv
  have hx := B0.exec
  have hb := B0.bytes
  have hr := B0.returns
  have hts := atoms_spec (ws := vfX12_leaves) B0.pre
  have hown : s.vm.findClass RX12 = some m.cls := findClass_of_methodNamed B0.named
  have hlocks := B0.notSynchronized
  subst hsz
  have hD := hD0.self (sz := s.heap.size)
  generalize hAe : va_A ((a0, .inr (9, [g5, g6, g7, .ref a2, g8, g9, g10, g11, g12, g13, g14, g15, g16, g17, g18, g19, g20, g21, g22, g23, g24, g25, g26, g27, g28, g29, g30, g31, g32, g33])) :: bX11 a2 uq kq q_q []) s.heap.size = A at hD ⊢
  have hA : ∀ q : Nat, s.heap.size ≤ q → A q := fun q h => by rw [← hAe]; exact Or.inr h
  have hS : va_S A s.heap s.heap [] := va_S.rf
  have hP : va_P (dC, dI) vwCl ((a0, .inr (9, [g5, g6, g7, .ref a2, g8, g9, g10, g11, g12, g13, g14, g15, g16, g17, g18, g19, g20, g21, g22, g23, g24, g25, g26, g27, g28, g29, g30, g31, g32, g33])) :: bX11 a2 uq kq q_q []) s.heap := hP
  have hl := lv_entry ([.ref a0, .int k1]) (n := 5) (Nat.le_of_ble_eq_true rfl)
  rw [lg_entry_eq]
  generalize (lg_sl ([.ref a0, .int k1]) ++ List.replicate (5 - (lg_sl ([.ref a0, .int k1])).length) Slot.unset).toArray = ls at hl ⊢
  have hl : lv_has ls 5 [(0, .ref a0), (1, .int k1)] := hl
  refine W_q (fun QQ hQQ => ?_)
  rw [f_X12_leaves] at h
  refine lv_iconst (v := 0) hx hb dX12_leaves_0 (by decide) ?_
  refine lv_istore_n (lv' := [(2, .int 0), (0, .ref a0), (1, .int k1)]) hx hb dX12_leaves_1 rfl hl (by decide) rfl (fun ls hl => ?_)
  refine lv_iconst (v := 0) hx hb dX12_leaves_2 (by decide) ?_
  refine lv_istore_n (lv' := [(3, .int 0), (2, .int 0), (0, .ref a0), (1, .int k1)]) hx hb dX12_leaves_3 rfl hl (by decide) rfl (fun ls hl => ?_)
  refine lv_iconst (v := 0) hx hb dX12_leaves_4 (by decide) ?_
  refine lv_istore (lv' := [(4, .int 0), (3, .int 0), (2, .int 0), (0, .ref a0), (1, .int k1)]) hx hb dX12_leaves_5 hl (by decide) rfl (fun ls hl => ?_)
  have L7 : ∀ (n7 : Nat) (v7_l4 : Int32) (v7_l3 : Int32) (v7_l2 : Int32) (H : Heap) (locs : List Loc) (ls : Array Slot), f_X12_leaves_L7 k1 q_q n7 v7_l4 v7_l3 v7_l2 = some out → va_P (dC, dI) vwCl ((a0, .inr (9, [g5, g6, g7, .ref a2, g8, g9, g10, g11, g12, g13, g14, g15, g16, g17, g18, g19, g20, g21, g22, g23, g24, g25, g26, g27, g28, g29, g30, g31, g32, g33])) :: bX11 a2 uq kq q_q []) H → va_D A ((a0, .inr (9, [g5, g6, g7, .ref a2, g8, g9, g10, g11, g12, g13, g14, g15, g16, g17, g18, g19, g20, g21, g22, g23, g24, g25, g26, g27, g28, g29, g30, g31, g32, g33])) :: bX11 a2 uq kq q_q []) → va_S A s.heap H locs → lv_has ls 5 [(4, .int v7_l4), (3, .int v7_l3), (2, .int v7_l2), (0, .ref a0), (1, .int k1)] → W p l e (headSpec vfX12_leaves { frames := 4, cells := 0, slots := 0, locals := 92 }).room s m ([.ref a0, .int k1]).toArray below meth c H locs 0 0 QQ (F0 m 7 ls []) := by
    intro n7
    induction n7 with
    | zero =>
      intro v7_l4 v7_l3 v7_l2 H locs ls h  _ _ _ _
      rw [f_X12_leaves_L7] at h
      cases h
    | succ n7 ih7 =>
      intro v7_l4 v7_l3 v7_l2 H locs ls h  hP hD hS hl
      rw [f_X12_leaves_L7] at h
      refine lv_iload hx hb dX12_leaves_7 (lv_at hl 0 rfl) ?_
      refine lv_aload_n hx hb dX12_leaves_9 rfl (lv_at hl 3 rfl) ?_
      refine va_get (D := (dC, dI)) (ci := 9) (v := .ref a2) (C := RX12) (T := TX12) (N := 30) hx hb hts ifX12_leaves_X12 hown hK hP 0 rfl rfl 3 (by decide) (hts (.fieldLink RX12 299 "HookPierModel" "pier" "LHookPierModel$Pier;") (List.mem_of_getElem? (i := 1) rfl)) (fun _ h9 => h9) rfl dX12_leaves_10 ?_
      obtain ⟨o13, eo13⟩ : ∃ o, o = f_X11_questions q_q := ⟨_, rfl⟩
      have h := nm_of h o13 eo13
      refine cl_i (wc := (bX11 a2 uq kq q_q [])) (wr := ([(a0, .inr (9, [g5, g6, g7, .ref a2, g8, g9, g10, g11, g12, g13, g14, g15, g16, g17, g18, g19, g20, g21, g22, g23, g24, g25, g26, g27, g28, g29, g30, g31, g32, g33]))])) (va_runV (As := []) (rest := [.int v7_l4]) ⟨hx, hb, hml, hown, hts⟩ (kfX11_questions l dC dI a2 uq kq q_q H.size o13 eo13.symm) (cwV 0 hts gfX12_leaves_0 rfl rfl rfl (by decide +kernel) ⟨(Nat.le_of_ble_eq_true rfl), (Nat.le_of_ble_eq_true rfl)⟩) (PV (hP.sub (ws' := (bX11 a2 uq kq q_q [])) [1, 2, 3, 4, 5, 6, 7, 8, 9, 10, 11, 12, 13, 14, 15] rfl) (hK.sub (tys' := (tX11 kq ([]))) [0, 1, 2, 3, 4, 5, 6, 7, 8, 9, 10, 11, 12, 13] rfl) (hD.sub (ws' := (bX11 a2 uq kq q_q [])) [1, 2, 3, 4, 5, 6, 7, 8, 9, 10, 11, 12, 13, 14, 15] (by decide) rfl) hN 0 rfl rfl) rfl rfl hl.1 rfl (lv_room (Nat.le_of_ble_eq_true rfl)) dX12_leaves_13 ⟨(Nat.le_of_ble_eq_true rfl), (Nat.le_of_ble_eq_true rfl)⟩) hP hD hK hS hA [1, 2, 3, 4, 5, 6, 7, 8, 9, 10, 11, 12, 13, 14, 15] [0] rfl rfl (by decide) (by decide) (fun r13 _ H locs hw hP hD _ hS => ?_)
      obtain rfl := hw.symm
      have hP : va_P (dC, dI) vwCl ((a0, .inr (9, [g5, g6, g7, .ref a2, g8, g9, g10, g11, g12, g13, g14, g15, g16, g17, g18, g19, g20, g21, g22, g23, g24, g25, g26, g27, g28, g29, g30, g31, g32, g33])) :: bX11 a2 uq kq q_q []) H := hP
      have hD : va_D A ((a0, .inr (9, [g5, g6, g7, .ref a2, g8, g9, g10, g11, g12, g13, g14, g15, g16, g17, g18, g19, g20, g21, g22, g23, g24, g25, g26, g27, g28, g29, g30, g31, g32, g33])) :: bX11 a2 uq kq q_q []) := hD
      refine lv_icmp_ge (tgt := 91) hx hb dX12_leaves_16 (by decide) (fun c16 => ?_) (fun c16 => ?_)
      · have h := (if_pos c16).symm.trans h
        refine lv_iload_n hx hb dX12_leaves_91 rfl (lv_at hl 2 rfl) ?_
        refine lv_iload_n hx hb dX12_leaves_92 rfl (lv_at hl 1 rfl) ?_
        refine lv_icmp_le (tgt := 100) hx hb dX12_leaves_93 (by decide) (fun c93 => ?_) (fun c93 => ?_)
        · have h := (if_pos c93).symm.trans h
          refine lv_iload_n hx hb dX12_leaves_100 rfl (lv_at hl 1 rfl) ?_
          obtain rfl := Option.some.inj h
          have hP9 := hP.sub (ws' := ((a0, .inr (9, [g5, g6, g7, .ref a2, g8, g9, g10, g11, g12, g13, g14, g15, g16, g17, g18, g19, g20, g21, g22, g23, g24, g25, g26, g27, g28, g29, g30, g31, g32, g33])) :: bX11 a2 uq kq q_q [])) [0, 1, 2, 3, 4, 5, 6, 7, 8, 9, 10, 11, 12, 13, 14, 15] rfl
          have hD9 := hD.sub (ws' := ((a0, .inr (9, [g5, g6, g7, .ref a2, g8, g9, g10, g11, g12, g13, g14, g15, g16, g17, g18, g19, g20, g21, g22, g23, g24, g25, g26, g27, g28, g29, g30, g31, g32, g33])) :: bX11 a2 uq kq q_q [])) [0, 1, 2, 3, 4, 5, 6, 7, 8, 9, 10, 11, 12, 13, 14, 15] (by decide) rfl
          have hK9 := hK.sub (tys' := []) [] rfl
          rw [hQQ]
          exact W.iret (v := v7_l3) hx hb hr (fun t ht hW => ⟨⟨v7_l3, (), rfl, rfl, by rw [ht]; exact hP9, va_K.moved hW.alike hK9, hD9⟩, hS.F ht⟩) hS.2.2 dX12_leaves_101
        · have h := (if_neg c93).symm.trans h
          refine lv_iload_n hx hb dX12_leaves_96 rfl (lv_at hl 2 rfl) ?_
          refine lv_goto (tgt := 101) hx hb dX12_leaves_97 (by decide) ?_
          obtain rfl := Option.some.inj h
          have hP9 := hP.sub (ws' := ((a0, .inr (9, [g5, g6, g7, .ref a2, g8, g9, g10, g11, g12, g13, g14, g15, g16, g17, g18, g19, g20, g21, g22, g23, g24, g25, g26, g27, g28, g29, g30, g31, g32, g33])) :: bX11 a2 uq kq q_q [])) [0, 1, 2, 3, 4, 5, 6, 7, 8, 9, 10, 11, 12, 13, 14, 15] rfl
          have hD9 := hD.sub (ws' := ((a0, .inr (9, [g5, g6, g7, .ref a2, g8, g9, g10, g11, g12, g13, g14, g15, g16, g17, g18, g19, g20, g21, g22, g23, g24, g25, g26, g27, g28, g29, g30, g31, g32, g33])) :: bX11 a2 uq kq q_q [])) [0, 1, 2, 3, 4, 5, 6, 7, 8, 9, 10, 11, 12, 13, 14, 15] (by decide) rfl
          have hK9 := hK.sub (tys' := []) [] rfl
          rw [hQQ]
          exact W.iret (v := v7_l2) hx hb hr (fun t ht hW => ⟨⟨v7_l2, (), rfl, rfl, by rw [ht]; exact hP9, va_K.moved hW.alike hK9, hD9⟩, hS.F ht⟩) hS.2.2 dX12_leaves_101
      · have h := (if_neg c16).symm.trans h
        refine lv_aload_n hx hb dX12_leaves_19 rfl (lv_at hl 3 rfl) ?_
        refine lv_iload hx hb dX12_leaves_20 (lv_at hl 0 rfl) ?_
        obtain ⟨o22, eo22, h⟩ := bd_of h
        refine cl_i (wc := ((a0, .inr (9, [g5, g6, g7, .ref a2, g8, g9, g10, g11, g12, g13, g14, g15, g16, g17, g18, g19, g20, g21, g22, g23, g24, g25, g26, g27, g28, g29, g30, g31, g32, g33])) :: bX11 a2 uq kq q_q [])) (wr := []) (va_runV (As := [.int v7_l4]) (rest := []) ⟨hx, hb, hml, hown, hts⟩ (kfX12_isDark l dC dI a0 v7_l4 a2 uq kq (g5) (g6) (g7) (g8) (g9) (g10) (g11) (g12) (g13) (g14) (g15) (g16) (g17) (g18) (g19) (g20) (g21) (g22) (g23) (g24) (g25) (g26) (g27) (g28) (g29) (g30) (g31) (g32) (g33) q_q H.size o22 eo22) (cwV 1 hts gfX12_leaves_1 rfl rfl rfl (by decide +kernel) ⟨(Nat.le_of_ble_eq_true rfl), (Nat.le_of_ble_eq_true rfl)⟩) (PV (hP.sub (ws' := ((a0, .inr (9, [g5, g6, g7, .ref a2, g8, g9, g10, g11, g12, g13, g14, g15, g16, g17, g18, g19, g20, g21, g22, g23, g24, g25, g26, g27, g28, g29, g30, g31, g32, g33])) :: bX11 a2 uq kq q_q [])) [0, 1, 2, 3, 4, 5, 6, 7, 8, 9, 10, 11, 12, 13, 14, 15] rfl) (hK.sub (tys' := (tX11 kq ([]))) [0, 1, 2, 3, 4, 5, 6, 7, 8, 9, 10, 11, 12, 13] rfl) (hD.sub (ws' := ((a0, .inr (9, [g5, g6, g7, .ref a2, g8, g9, g10, g11, g12, g13, g14, g15, g16, g17, g18, g19, g20, g21, g22, g23, g24, g25, g26, g27, g28, g29, g30, g31, g32, g33])) :: bX11 a2 uq kq q_q [])) [0, 1, 2, 3, 4, 5, 6, 7, 8, 9, 10, 11, 12, 13, 14, 15] (by decide) rfl) hN 0 rfl rfl) rfl rfl hl.1 rfl (lv_room (Nat.le_of_ble_eq_true rfl)) dX12_leaves_22 ⟨(Nat.le_of_ble_eq_true rfl), (Nat.le_of_ble_eq_true rfl)⟩) hP hD hK hS hA [0, 1, 2, 3, 4, 5, 6, 7, 8, 9, 10, 11, 12, 13, 14, 15] [] rfl rfl (by decide) (by decide) (fun r22 _ H locs hw hP hD _ hS => ?_)
        obtain ⟨hw, br22⟩ := hw
        obtain rfl := hw.symm
        have hP : va_P (dC, dI) vwCl ((a0, .inr (9, [g5, g6, g7, .ref a2, g8, g9, g10, g11, g12, g13, g14, g15, g16, g17, g18, g19, g20, g21, g22, g23, g24, g25, g26, g27, g28, g29, g30, g31, g32, g33])) :: bX11 a2 uq kq q_q []) H := hP
        have hD : va_D A ((a0, .inr (9, [g5, g6, g7, .ref a2, g8, g9, g10, g11, g12, g13, g14, g15, g16, g17, g18, g19, g20, g21, g22, g23, g24, g25, g26, g27, g28, g29, g30, g31, g32, g33])) :: bX11 a2 uq kq q_q []) := hD
        have J85 : ∀ (v85_l3 : Int32) (v85_l2 : Int32) (H : Heap) (locs : List Loc) (ls : Array Slot), f_X12_leaves_J85 (f_X12_leaves_L7 k1 q_q n7) v7_l4 v85_l3 v85_l2 = some out → va_P (dC, dI) vwCl ((a0, .inr (9, [g5, g6, g7, .ref a2, g8, g9, g10, g11, g12, g13, g14, g15, g16, g17, g18, g19, g20, g21, g22, g23, g24, g25, g26, g27, g28, g29, g30, g31, g32, g33])) :: bX11 a2 uq kq q_q []) H → va_D A ((a0, .inr (9, [g5, g6, g7, .ref a2, g8, g9, g10, g11, g12, g13, g14, g15, g16, g17, g18, g19, g20, g21, g22, g23, g24, g25, g26, g27, g28, g29, g30, g31, g32, g33])) :: bX11 a2 uq kq q_q []) → va_S A s.heap H locs → lv_has ls 5 [(3, .int v85_l3), (4, .int v7_l4), (2, .int v85_l2), (0, .ref a0), (1, .int k1)] → W p l e (headSpec vfX12_leaves { frames := 4, cells := 0, slots := 0, locals := 92 }).room s m ([.ref a0, .int k1]).toArray below meth c H locs 0 0 QQ (F0 m 85 ls []) := by
          intro v85_l3 v85_l2 H locs ls h  hP hD hS hl
          rw [f_X12_leaves_J85] at h
          refine lv_iinc (v := (v7_l4 + (1 : Int32))) (lv' := [(4, .int (v7_l4 + (1 : Int32))), (3, .int v85_l3), (2, .int v85_l2), (0, .ref a0), (1, .int k1)]) hx hb dX12_leaves_85 hl (k := 1) rfl rfl (by decide) rfl (fun ls hl => ?_)
          refine lv_goto (tgt := 7) hx hb dX12_leaves_88 (by decide) ?_
          exact ih7 (v7_l4 + (1 : Int32)) v85_l3 v85_l2 H _ ls h  hP hD hS (lv_sub hl [0, 1, 2, 3, 4] rfl)
        refine lv_if_ne (tgt := 31) hx hb dX12_leaves_25 (by decide) (fun c25 => ?_) (fun c25 => ?_)
        · have h := (if_neg c25).symm.trans h
          refine lv_aload_n hx hb dX12_leaves_31 rfl (lv_at hl 3 rfl) ?_
          refine va_get (D := (dC, dI)) (ci := 9) (v := .ref a2) (C := RX12) (T := TX12) (N := 30) hx hb hts ifX12_leaves_X12 hown hK hP 0 rfl rfl 3 (by decide) (hts (.fieldLink RX12 299 "HookPierModel" "pier" "LHookPierModel$Pier;") (List.mem_of_getElem? (i := 1) rfl)) (fun _ h9 => h9) rfl dX12_leaves_32 ?_
          refine lv_aload_n hx hb dX12_leaves_35 rfl (lv_at hl 3 rfl) ?_
          refine lv_iload hx hb dX12_leaves_36 (lv_at hl 0 rfl) ?_
          obtain ⟨o38, eo38, h⟩ := bd_of h
          refine cl_i (wc := ((a0, .inr (9, [g5, g6, g7, .ref a2, g8, g9, g10, g11, g12, g13, g14, g15, g16, g17, g18, g19, g20, g21, g22, g23, g24, g25, g26, g27, g28, g29, g30, g31, g32, g33])) :: bX11 a2 uq kq q_q [])) (wr := []) (va_runV (As := [.int v7_l4]) (rest := [.ref a2]) ⟨hx, hb, hml, hown, hts⟩ (kfX12_spotOf l dC dI a0 v7_l4 a2 uq kq (g5) (g6) (g7) (g8) (g9) (g10) (g11) (g12) (g13) (g14) (g15) (g16) (g17) (g18) (g19) (g20) (g21) (g22) (g23) (g24) (g25) (g26) (g27) (g28) (g29) (g30) (g31) (g32) (g33) q_q H.size o38 eo38) (cwV 1 hts gfX12_leaves_2 rfl rfl rfl (by decide +kernel) ⟨(Nat.le_of_ble_eq_true rfl), (Nat.le_of_ble_eq_true rfl)⟩) (PV (hP.sub (ws' := ((a0, .inr (9, [g5, g6, g7, .ref a2, g8, g9, g10, g11, g12, g13, g14, g15, g16, g17, g18, g19, g20, g21, g22, g23, g24, g25, g26, g27, g28, g29, g30, g31, g32, g33])) :: bX11 a2 uq kq q_q [])) [0, 1, 2, 3, 4, 5, 6, 7, 8, 9, 10, 11, 12, 13, 14, 15] rfl) (hK.sub (tys' := (tX11 kq ([]))) [0, 1, 2, 3, 4, 5, 6, 7, 8, 9, 10, 11, 12, 13] rfl) (hD.sub (ws' := ((a0, .inr (9, [g5, g6, g7, .ref a2, g8, g9, g10, g11, g12, g13, g14, g15, g16, g17, g18, g19, g20, g21, g22, g23, g24, g25, g26, g27, g28, g29, g30, g31, g32, g33])) :: bX11 a2 uq kq q_q [])) [0, 1, 2, 3, 4, 5, 6, 7, 8, 9, 10, 11, 12, 13, 14, 15] (by decide) rfl) hN 0 rfl rfl) rfl rfl hl.1 rfl (lv_room (Nat.le_of_ble_eq_true rfl)) dX12_leaves_38 ⟨(Nat.le_of_ble_eq_true rfl), (Nat.le_of_ble_eq_true rfl)⟩) hP hD hK hS hA [0, 1, 2, 3, 4, 5, 6, 7, 8, 9, 10, 11, 12, 13, 14, 15] [] rfl rfl (by decide) (by decide) (fun r38 _ H locs hw hP hD _ hS => ?_)
          obtain rfl := hw.symm
          have hP : va_P (dC, dI) vwCl ((a0, .inr (9, [g5, g6, g7, .ref a2, g8, g9, g10, g11, g12, g13, g14, g15, g16, g17, g18, g19, g20, g21, g22, g23, g24, g25, g26, g27, g28, g29, g30, g31, g32, g33])) :: bX11 a2 uq kq q_q []) H := hP
          have hD : va_D A ((a0, .inr (9, [g5, g6, g7, .ref a2, g8, g9, g10, g11, g12, g13, g14, g15, g16, g17, g18, g19, g20, g21, g22, g23, g24, g25, g26, g27, g28, g29, g30, g31, g32, g33])) :: bX11 a2 uq kq q_q []) := hD
          refine lv_aload_n hx hb dX12_leaves_41 rfl (lv_at hl 3 rfl) ?_
          refine lv_iload hx hb dX12_leaves_42 (lv_at hl 0 rfl) ?_
          obtain ⟨o44, eo44, h⟩ := bd_of h
          refine cl_i (wc := ((a0, .inr (9, [g5, g6, g7, .ref a2, g8, g9, g10, g11, g12, g13, g14, g15, g16, g17, g18, g19, g20, g21, g22, g23, g24, g25, g26, g27, g28, g29, g30, g31, g32, g33])) :: bX11 a2 uq kq q_q [])) (wr := []) (va_runV (As := [.int v7_l4]) (rest := [.int o38, .ref a2]) ⟨hx, hb, hml, hown, hts⟩ (kfX12_fathomsOf l dC dI a0 v7_l4 a2 uq kq (g5) (g6) (g7) (g8) (g9) (g10) (g11) (g12) (g13) (g14) (g15) (g16) (g17) (g18) (g19) (g20) (g21) (g22) (g23) (g24) (g25) (g26) (g27) (g28) (g29) (g30) (g31) (g32) (g33) q_q H.size o44 eo44) (cwV 1 hts gfX12_leaves_3 rfl rfl rfl (by decide +kernel) ⟨(Nat.le_of_ble_eq_true rfl), (Nat.le_of_ble_eq_true rfl)⟩) (PV (hP.sub (ws' := ((a0, .inr (9, [g5, g6, g7, .ref a2, g8, g9, g10, g11, g12, g13, g14, g15, g16, g17, g18, g19, g20, g21, g22, g23, g24, g25, g26, g27, g28, g29, g30, g31, g32, g33])) :: bX11 a2 uq kq q_q [])) [0, 1, 2, 3, 4, 5, 6, 7, 8, 9, 10, 11, 12, 13, 14, 15] rfl) (hK.sub (tys' := (tX11 kq ([]))) [0, 1, 2, 3, 4, 5, 6, 7, 8, 9, 10, 11, 12, 13] rfl) (hD.sub (ws' := ((a0, .inr (9, [g5, g6, g7, .ref a2, g8, g9, g10, g11, g12, g13, g14, g15, g16, g17, g18, g19, g20, g21, g22, g23, g24, g25, g26, g27, g28, g29, g30, g31, g32, g33])) :: bX11 a2 uq kq q_q [])) [0, 1, 2, 3, 4, 5, 6, 7, 8, 9, 10, 11, 12, 13, 14, 15] (by decide) rfl) hN 0 rfl rfl) rfl rfl hl.1 rfl (lv_room (Nat.le_of_ble_eq_true rfl)) dX12_leaves_44 ⟨(Nat.le_of_ble_eq_true rfl), (Nat.le_of_ble_eq_true rfl)⟩) hP hD hK hS hA [0, 1, 2, 3, 4, 5, 6, 7, 8, 9, 10, 11, 12, 13, 14, 15] [] rfl rfl (by decide) (by decide) (fun r44 _ H locs hw hP hD _ hS => ?_)
          obtain rfl := hw.symm
          have hP : va_P (dC, dI) vwCl ((a0, .inr (9, [g5, g6, g7, .ref a2, g8, g9, g10, g11, g12, g13, g14, g15, g16, g17, g18, g19, g20, g21, g22, g23, g24, g25, g26, g27, g28, g29, g30, g31, g32, g33])) :: bX11 a2 uq kq q_q []) H := hP
          have hD : va_D A ((a0, .inr (9, [g5, g6, g7, .ref a2, g8, g9, g10, g11, g12, g13, g14, g15, g16, g17, g18, g19, g20, g21, g22, g23, g24, g25, g26, g27, g28, g29, g30, g31, g32, g33])) :: bX11 a2 uq kq q_q []) := hD
          refine lv_aload_n hx hb dX12_leaves_47 rfl (lv_at hl 3 rfl) ?_
          refine lv_iload hx hb dX12_leaves_48 (lv_at hl 0 rfl) ?_
          obtain ⟨o50, eo50, h⟩ := bd_of h
          refine cl_i (wc := ((a0, .inr (9, [g5, g6, g7, .ref a2, g8, g9, g10, g11, g12, g13, g14, g15, g16, g17, g18, g19, g20, g21, g22, g23, g24, g25, g26, g27, g28, g29, g30, g31, g32, g33])) :: bX11 a2 uq kq q_q [])) (wr := []) (va_runV (As := [.int v7_l4]) (rest := [.int o44, .int o38, .ref a2]) ⟨hx, hb, hml, hown, hts⟩ (kfX12_baitOf l dC dI a0 v7_l4 a2 uq kq (g5) (g6) (g7) (g8) (g9) (g10) (g11) (g12) (g13) (g14) (g15) (g16) (g17) (g18) (g19) (g20) (g21) (g22) (g23) (g24) (g25) (g26) (g27) (g28) (g29) (g30) (g31) (g32) (g33) q_q H.size o50 eo50) (cwV 1 hts gfX12_leaves_4 rfl rfl rfl (by decide +kernel) ⟨(Nat.le_of_ble_eq_true rfl), (Nat.le_of_ble_eq_true rfl)⟩) (PV (hP.sub (ws' := ((a0, .inr (9, [g5, g6, g7, .ref a2, g8, g9, g10, g11, g12, g13, g14, g15, g16, g17, g18, g19, g20, g21, g22, g23, g24, g25, g26, g27, g28, g29, g30, g31, g32, g33])) :: bX11 a2 uq kq q_q [])) [0, 1, 2, 3, 4, 5, 6, 7, 8, 9, 10, 11, 12, 13, 14, 15] rfl) (hK.sub (tys' := (tX11 kq ([]))) [0, 1, 2, 3, 4, 5, 6, 7, 8, 9, 10, 11, 12, 13] rfl) (hD.sub (ws' := ((a0, .inr (9, [g5, g6, g7, .ref a2, g8, g9, g10, g11, g12, g13, g14, g15, g16, g17, g18, g19, g20, g21, g22, g23, g24, g25, g26, g27, g28, g29, g30, g31, g32, g33])) :: bX11 a2 uq kq q_q [])) [0, 1, 2, 3, 4, 5, 6, 7, 8, 9, 10, 11, 12, 13, 14, 15] (by decide) rfl) hN 0 rfl rfl) rfl rfl hl.1 rfl (lv_room (Nat.le_of_ble_eq_true rfl)) dX12_leaves_50 ⟨(Nat.le_of_ble_eq_true rfl), (Nat.le_of_ble_eq_true rfl)⟩) hP hD hK hS hA [0, 1, 2, 3, 4, 5, 6, 7, 8, 9, 10, 11, 12, 13, 14, 15] [] rfl rfl (by decide) (by decide) (fun r50 _ H locs hw hP hD _ hS => ?_)
          obtain rfl := hw.symm
          have hP : va_P (dC, dI) vwCl ((a0, .inr (9, [g5, g6, g7, .ref a2, g8, g9, g10, g11, g12, g13, g14, g15, g16, g17, g18, g19, g20, g21, g22, g23, g24, g25, g26, g27, g28, g29, g30, g31, g32, g33])) :: bX11 a2 uq kq q_q []) H := hP
          have hD : va_D A ((a0, .inr (9, [g5, g6, g7, .ref a2, g8, g9, g10, g11, g12, g13, g14, g15, g16, g17, g18, g19, g20, g21, g22, g23, g24, g25, g26, g27, g28, g29, g30, g31, g32, g33])) :: bX11 a2 uq kq q_q []) := hD
          refine lv_aload_n hx hb dX12_leaves_53 rfl (lv_at hl 3 rfl) ?_
          refine lv_iload_n hx hb dX12_leaves_54 rfl (lv_at hl 4 rfl) ?_
          obtain ⟨o55, eo55, h⟩ := bd_of h
          refine cl_i (wc := ((a0, .inr (9, [g5, g6, g7, .ref a2, g8, g9, g10, g11, g12, g13, g14, g15, g16, g17, g18, g19, g20, g21, g22, g23, g24, g25, g26, g27, g28, g29, g30, g31, g32, g33])) :: bX11 a2 uq kq q_q [])) (wr := []) (va_runV (As := [.int k1]) (rest := [.int o50, .int o44, .int o38, .ref a2]) ⟨hx, hb, hml, hown, hts⟩ (kfX12_spotOf l dC dI a0 k1 a2 uq kq (g5) (g6) (g7) (g8) (g9) (g10) (g11) (g12) (g13) (g14) (g15) (g16) (g17) (g18) (g19) (g20) (g21) (g22) (g23) (g24) (g25) (g26) (g27) (g28) (g29) (g30) (g31) (g32) (g33) q_q H.size o55 eo55) (cwV 1 hts gfX12_leaves_2 rfl rfl rfl (by decide +kernel) ⟨(Nat.le_of_ble_eq_true rfl), (Nat.le_of_ble_eq_true rfl)⟩) (PV (hP.sub (ws' := ((a0, .inr (9, [g5, g6, g7, .ref a2, g8, g9, g10, g11, g12, g13, g14, g15, g16, g17, g18, g19, g20, g21, g22, g23, g24, g25, g26, g27, g28, g29, g30, g31, g32, g33])) :: bX11 a2 uq kq q_q [])) [0, 1, 2, 3, 4, 5, 6, 7, 8, 9, 10, 11, 12, 13, 14, 15] rfl) (hK.sub (tys' := (tX11 kq ([]))) [0, 1, 2, 3, 4, 5, 6, 7, 8, 9, 10, 11, 12, 13] rfl) (hD.sub (ws' := ((a0, .inr (9, [g5, g6, g7, .ref a2, g8, g9, g10, g11, g12, g13, g14, g15, g16, g17, g18, g19, g20, g21, g22, g23, g24, g25, g26, g27, g28, g29, g30, g31, g32, g33])) :: bX11 a2 uq kq q_q [])) [0, 1, 2, 3, 4, 5, 6, 7, 8, 9, 10, 11, 12, 13, 14, 15] (by decide) rfl) hN 0 rfl rfl) rfl rfl hl.1 rfl (lv_room (Nat.le_of_ble_eq_true rfl)) dX12_leaves_55 ⟨(Nat.le_of_ble_eq_true rfl), (Nat.le_of_ble_eq_true rfl)⟩) hP hD hK hS hA [0, 1, 2, 3, 4, 5, 6, 7, 8, 9, 10, 11, 12, 13, 14, 15] [] rfl rfl (by decide) (by decide) (fun r55 _ H locs hw hP hD _ hS => ?_)
          obtain rfl := hw.symm
          have hP : va_P (dC, dI) vwCl ((a0, .inr (9, [g5, g6, g7, .ref a2, g8, g9, g10, g11, g12, g13, g14, g15, g16, g17, g18, g19, g20, g21, g22, g23, g24, g25, g26, g27, g28, g29, g30, g31, g32, g33])) :: bX11 a2 uq kq q_q []) H := hP
          have hD : va_D A ((a0, .inr (9, [g5, g6, g7, .ref a2, g8, g9, g10, g11, g12, g13, g14, g15, g16, g17, g18, g19, g20, g21, g22, g23, g24, g25, g26, g27, g28, g29, g30, g31, g32, g33])) :: bX11 a2 uq kq q_q []) := hD
          refine lv_aload_n hx hb dX12_leaves_58 rfl (lv_at hl 3 rfl) ?_
          refine lv_iload_n hx hb dX12_leaves_59 rfl (lv_at hl 4 rfl) ?_
          obtain ⟨o60, eo60, h⟩ := bd_of h
          refine cl_i (wc := ((a0, .inr (9, [g5, g6, g7, .ref a2, g8, g9, g10, g11, g12, g13, g14, g15, g16, g17, g18, g19, g20, g21, g22, g23, g24, g25, g26, g27, g28, g29, g30, g31, g32, g33])) :: bX11 a2 uq kq q_q [])) (wr := []) (va_runV (As := [.int k1]) (rest := [.int o55, .int o50, .int o44, .int o38, .ref a2]) ⟨hx, hb, hml, hown, hts⟩ (kfX12_fathomsOf l dC dI a0 k1 a2 uq kq (g5) (g6) (g7) (g8) (g9) (g10) (g11) (g12) (g13) (g14) (g15) (g16) (g17) (g18) (g19) (g20) (g21) (g22) (g23) (g24) (g25) (g26) (g27) (g28) (g29) (g30) (g31) (g32) (g33) q_q H.size o60 eo60) (cwV 1 hts gfX12_leaves_3 rfl rfl rfl (by decide +kernel) ⟨(Nat.le_of_ble_eq_true rfl), (Nat.le_of_ble_eq_true rfl)⟩) (PV (hP.sub (ws' := ((a0, .inr (9, [g5, g6, g7, .ref a2, g8, g9, g10, g11, g12, g13, g14, g15, g16, g17, g18, g19, g20, g21, g22, g23, g24, g25, g26, g27, g28, g29, g30, g31, g32, g33])) :: bX11 a2 uq kq q_q [])) [0, 1, 2, 3, 4, 5, 6, 7, 8, 9, 10, 11, 12, 13, 14, 15] rfl) (hK.sub (tys' := (tX11 kq ([]))) [0, 1, 2, 3, 4, 5, 6, 7, 8, 9, 10, 11, 12, 13] rfl) (hD.sub (ws' := ((a0, .inr (9, [g5, g6, g7, .ref a2, g8, g9, g10, g11, g12, g13, g14, g15, g16, g17, g18, g19, g20, g21, g22, g23, g24, g25, g26, g27, g28, g29, g30, g31, g32, g33])) :: bX11 a2 uq kq q_q [])) [0, 1, 2, 3, 4, 5, 6, 7, 8, 9, 10, 11, 12, 13, 14, 15] (by decide) rfl) hN 0 rfl rfl) rfl rfl hl.1 rfl (lv_room (Nat.le_of_ble_eq_true rfl)) dX12_leaves_60 ⟨(Nat.le_of_ble_eq_true rfl), (Nat.le_of_ble_eq_true rfl)⟩) hP hD hK hS hA [0, 1, 2, 3, 4, 5, 6, 7, 8, 9, 10, 11, 12, 13, 14, 15] [] rfl rfl (by decide) (by decide) (fun r60 _ H locs hw hP hD _ hS => ?_)
          obtain rfl := hw.symm
          have hP : va_P (dC, dI) vwCl ((a0, .inr (9, [g5, g6, g7, .ref a2, g8, g9, g10, g11, g12, g13, g14, g15, g16, g17, g18, g19, g20, g21, g22, g23, g24, g25, g26, g27, g28, g29, g30, g31, g32, g33])) :: bX11 a2 uq kq q_q []) H := hP
          have hD : va_D A ((a0, .inr (9, [g5, g6, g7, .ref a2, g8, g9, g10, g11, g12, g13, g14, g15, g16, g17, g18, g19, g20, g21, g22, g23, g24, g25, g26, g27, g28, g29, g30, g31, g32, g33])) :: bX11 a2 uq kq q_q []) := hD
          refine lv_aload_n hx hb dX12_leaves_63 rfl (lv_at hl 3 rfl) ?_
          refine lv_iload_n hx hb dX12_leaves_64 rfl (lv_at hl 4 rfl) ?_
          obtain ⟨o65, eo65, h⟩ := bd_of h
          refine cl_i (wc := ((a0, .inr (9, [g5, g6, g7, .ref a2, g8, g9, g10, g11, g12, g13, g14, g15, g16, g17, g18, g19, g20, g21, g22, g23, g24, g25, g26, g27, g28, g29, g30, g31, g32, g33])) :: bX11 a2 uq kq q_q [])) (wr := []) (va_runV (As := [.int k1]) (rest := [.int o60, .int o55, .int o50, .int o44, .int o38, .ref a2]) ⟨hx, hb, hml, hown, hts⟩ (kfX12_baitOf l dC dI a0 k1 a2 uq kq (g5) (g6) (g7) (g8) (g9) (g10) (g11) (g12) (g13) (g14) (g15) (g16) (g17) (g18) (g19) (g20) (g21) (g22) (g23) (g24) (g25) (g26) (g27) (g28) (g29) (g30) (g31) (g32) (g33) q_q H.size o65 eo65) (cwV 1 hts gfX12_leaves_4 rfl rfl rfl (by decide +kernel) ⟨(Nat.le_of_ble_eq_true rfl), (Nat.le_of_ble_eq_true rfl)⟩) (PV (hP.sub (ws' := ((a0, .inr (9, [g5, g6, g7, .ref a2, g8, g9, g10, g11, g12, g13, g14, g15, g16, g17, g18, g19, g20, g21, g22, g23, g24, g25, g26, g27, g28, g29, g30, g31, g32, g33])) :: bX11 a2 uq kq q_q [])) [0, 1, 2, 3, 4, 5, 6, 7, 8, 9, 10, 11, 12, 13, 14, 15] rfl) (hK.sub (tys' := (tX11 kq ([]))) [0, 1, 2, 3, 4, 5, 6, 7, 8, 9, 10, 11, 12, 13] rfl) (hD.sub (ws' := ((a0, .inr (9, [g5, g6, g7, .ref a2, g8, g9, g10, g11, g12, g13, g14, g15, g16, g17, g18, g19, g20, g21, g22, g23, g24, g25, g26, g27, g28, g29, g30, g31, g32, g33])) :: bX11 a2 uq kq q_q [])) [0, 1, 2, 3, 4, 5, 6, 7, 8, 9, 10, 11, 12, 13, 14, 15] (by decide) rfl) hN 0 rfl rfl) rfl rfl hl.1 rfl (lv_room (Nat.le_of_ble_eq_true rfl)) dX12_leaves_65 ⟨(Nat.le_of_ble_eq_true rfl), (Nat.le_of_ble_eq_true rfl)⟩) hP hD hK hS hA [0, 1, 2, 3, 4, 5, 6, 7, 8, 9, 10, 11, 12, 13, 14, 15] [] rfl rfl (by decide) (by decide) (fun r65 _ H locs hw hP hD _ hS => ?_)
          obtain rfl := hw.symm
          have hP : va_P (dC, dI) vwCl ((a0, .inr (9, [g5, g6, g7, .ref a2, g8, g9, g10, g11, g12, g13, g14, g15, g16, g17, g18, g19, g20, g21, g22, g23, g24, g25, g26, g27, g28, g29, g30, g31, g32, g33])) :: bX11 a2 uq kq q_q []) H := hP
          have hD : va_D A ((a0, .inr (9, [g5, g6, g7, .ref a2, g8, g9, g10, g11, g12, g13, g14, g15, g16, g17, g18, g19, g20, g21, g22, g23, g24, g25, g26, g27, g28, g29, g30, g31, g32, g33])) :: bX11 a2 uq kq q_q []) := hD
          obtain ⟨o68, eo68⟩ : ∃ o, o = f_X11_darkWish o38 o44 o50 o55 o60 o65 q_q := ⟨_, rfl⟩
          have h := nm_of h o68 eo68
          refine cl_i (wc := (bX11 a2 uq kq q_q [])) (wr := ([(a0, .inr (9, [g5, g6, g7, .ref a2, g8, g9, g10, g11, g12, g13, g14, g15, g16, g17, g18, g19, g20, g21, g22, g23, g24, g25, g26, g27, g28, g29, g30, g31, g32, g33]))])) (va_runV (As := [.int o38, .int o44, .int o50, .int o55, .int o60, .int o65]) (rest := []) ⟨hx, hb, hml, hown, hts⟩ (kfX11_darkWish l dC dI a2 o38 o44 o50 o55 o60 o65 uq kq q_q H.size o68 eo68.symm) (cwV 6 hts gfX12_leaves_5 rfl rfl rfl (by decide +kernel) ⟨(Nat.le_of_ble_eq_true rfl), (Nat.le_of_ble_eq_true rfl)⟩) (PV (hP.sub (ws' := (bX11 a2 uq kq q_q [])) [1, 2, 3, 4, 5, 6, 7, 8, 9, 10, 11, 12, 13, 14, 15] rfl) (hK.sub (tys' := (tX11 kq ([]))) [0, 1, 2, 3, 4, 5, 6, 7, 8, 9, 10, 11, 12, 13] rfl) (hD.sub (ws' := (bX11 a2 uq kq q_q [])) [1, 2, 3, 4, 5, 6, 7, 8, 9, 10, 11, 12, 13, 14, 15] (by decide) rfl) hN 0 rfl rfl) rfl rfl hl.1 rfl (lv_room (Nat.le_of_ble_eq_true rfl)) dX12_leaves_68 ⟨(Nat.le_of_ble_eq_true rfl), (Nat.le_of_ble_eq_true rfl)⟩) hP hD hK hS hA [1, 2, 3, 4, 5, 6, 7, 8, 9, 10, 11, 12, 13, 14, 15] [0] rfl rfl (by decide) (by decide) (fun r68 _ H locs hw hP hD _ hS => ?_)
          obtain rfl := hw.symm
          have hP : va_P (dC, dI) vwCl ((a0, .inr (9, [g5, g6, g7, .ref a2, g8, g9, g10, g11, g12, g13, g14, g15, g16, g17, g18, g19, g20, g21, g22, g23, g24, g25, g26, g27, g28, g29, g30, g31, g32, g33])) :: bX11 a2 uq kq q_q []) H := hP
          have hD : va_D A ((a0, .inr (9, [g5, g6, g7, .ref a2, g8, g9, g10, g11, g12, g13, g14, g15, g16, g17, g18, g19, g20, g21, g22, g23, g24, g25, g26, g27, g28, g29, g30, g31, g32, g33])) :: bX11 a2 uq kq q_q []) := hD
          refine lv_bipush (v := 50) hx hb dX12_leaves_71 (by decide) ?_
          refine lv_icmp_lt (tgt := 82) hx hb dX12_leaves_73 (by decide) (fun c73 => ?_) (fun c73 => ?_)
          · have h := (if_pos c73).symm.trans h
            refine lv_iinc (v := (v7_l3 + (1 : Int32))) (lv' := [(3, .int (v7_l3 + (1 : Int32))), (4, .int v7_l4), (2, .int v7_l2), (0, .ref a0), (1, .int k1)]) hx hb dX12_leaves_82 hl (k := 1) rfl rfl (by decide) rfl (fun ls hl => ?_)
            exact J85 (v7_l3 + (1 : Int32)) v7_l2 H _ ls h  hP hD hS (lv_sub hl [0, 1, 2, 3, 4] rfl)
          · have h := (if_neg c73).symm.trans h
            refine lv_iinc (v := (v7_l2 + (1 : Int32))) (lv' := [(2, .int (v7_l2 + (1 : Int32))), (4, .int v7_l4), (3, .int v7_l3), (0, .ref a0), (1, .int k1)]) hx hb dX12_leaves_76 hl (k := 2) rfl rfl (by decide) rfl (fun ls hl => ?_)
            refine lv_goto (tgt := 85) hx hb dX12_leaves_79 (by decide) ?_
            exact J85 v7_l3 (v7_l2 + (1 : Int32)) H _ ls h  hP hD hS (lv_sub hl [2, 1, 0, 3, 4] rfl)
        · have h := (if_pos c25).symm.trans h
          refine lv_goto (tgt := 85) hx hb dX12_leaves_28 (by decide) ?_
          exact J85 v7_l3 v7_l2 H _ ls h  hP hD hS (lv_sub hl [1, 0, 2, 3, 4] rfl)
  exact L7 FU (0 : Int32) (0 : Int32) (0 : Int32) s.heap _ ls h  hP hD hS (lv_sub hl [0, 1, 2, 3, 4] rfl)
theorem dX12_toAsk_0 : decode cX12_toAsk 0 = .ok (.bipush (-2), 2) := by decide +kernel
theorem dX12_toAsk_10 : decode cX12_toAsk 10 = .ok (.istore_n 2, 1) := by decide +kernel
theorem dX12_toAsk_11 : decode cX12_toAsk 11 = .ok (.iload_n 2, 1) := by decide +kernel
theorem dX12_toAsk_12 : decode cX12_toAsk 12 = .ok (.aload_n 0, 1) := by decide +kernel
theorem dX12_toAsk_13 : decode cX12_toAsk 13 = .ok (.getfield 299, 3) := by decide +kernel
theorem dX12_toAsk_16 : decode cX12_toAsk 16 = .ok (.invokevirtual 374, 3) := by decide +kernel
theorem dX12_toAsk_19 : decode cX12_toAsk 19 = .ok (.if_icmp .ge 43, 3) := by decide +kernel
theorem dX12_toAsk_2 : decode cX12_toAsk 2 = .ok (.istore_n 1, 1) := by decide +kernel
theorem dX12_toAsk_22 : decode cX12_toAsk 22 = .ok (.aload_n 0, 1) := by decide +kernel
theorem dX12_toAsk_23 : decode cX12_toAsk 23 = .ok (.iload_n 2, 1) := by decide +kernel
theorem dX12_toAsk_24 : decode cX12_toAsk 24 = .ok (.invokevirtual 430, 3) := by decide +kernel
theorem dX12_toAsk_27 : decode cX12_toAsk 27 = .ok (.istore_n 3, 1) := by decide +kernel
theorem dX12_toAsk_28 : decode cX12_toAsk 28 = .ok (.iload_n 3, 1) := by decide +kernel
theorem dX12_toAsk_29 : decode cX12_toAsk 29 = .ok (.ifCond .eq 27, 3) := by decide +kernel
theorem dX12_toAsk_3 : decode cX12_toAsk 3 = .ok (.aload_n 0, 1) := by decide +kernel
theorem dX12_toAsk_32 : decode cX12_toAsk 32 = .ok (.iload_n 1, 1) := by decide +kernel
theorem dX12_toAsk_33 : decode cX12_toAsk 33 = .ok (.bipush (-2), 2) := by decide +kernel
theorem dX12_toAsk_35 : decode cX12_toAsk 35 = .ok (.if_icmp .eq 14, 3) := by decide +kernel
theorem dX12_toAsk_38 : decode cX12_toAsk 38 = .ok (.iload_n 3, 1) := by decide +kernel
theorem dX12_toAsk_39 : decode cX12_toAsk 39 = .ok (.aload_n 0, 1) := by decide +kernel
theorem dX12_toAsk_4 : decode cX12_toAsk 4 = .ok (.bipush (-2), 2) := by decide +kernel
theorem dX12_toAsk_40 : decode cX12_toAsk 40 = .ok (.getfield 427, 3) := by decide +kernel
theorem dX12_toAsk_43 : decode cX12_toAsk 43 = .ok (.if_icmp .lt 6, 3) := by decide +kernel
theorem dX12_toAsk_46 : decode cX12_toAsk 46 = .ok (.goto 10, 3) := by decide +kernel
theorem dX12_toAsk_49 : decode cX12_toAsk 49 = .ok (.aload_n 0, 1) := by decide +kernel
theorem dX12_toAsk_50 : decode cX12_toAsk 50 = .ok (.iload_n 3, 1) := by decide +kernel
theorem dX12_toAsk_51 : decode cX12_toAsk 51 = .ok (.putfield 427, 3) := by decide +kernel
theorem dX12_toAsk_54 : decode cX12_toAsk 54 = .ok (.iload_n 2, 1) := by decide +kernel
theorem dX12_toAsk_55 : decode cX12_toAsk 55 = .ok (.istore_n 1, 1) := by decide +kernel
theorem dX12_toAsk_56 : decode cX12_toAsk 56 = .ok (.iinc 2 1, 3) := by decide +kernel
theorem dX12_toAsk_59 : decode cX12_toAsk 59 = .ok (.goto (-48), 3) := by decide +kernel
theorem dX12_toAsk_6 : decode cX12_toAsk 6 = .ok (.putfield 427, 3) := by decide +kernel
theorem dX12_toAsk_62 : decode cX12_toAsk 62 = .ok (.iload_n 1, 1) := by decide +kernel
theorem dX12_toAsk_63 : decode cX12_toAsk 63 = .ok (.ireturn, 1) := by decide +kernel
theorem dX12_toAsk_9 : decode cX12_toAsk 9 = .ok (.iconst 0, 1) := by decide +kernel
def vfX12_toAsk : List Cond := List.cons (.code yX12_toAsk cX12_toAsk 4 (some .int)) (apW [.fieldLink RX12 427 "HookPierModel" "askLeft" "I", .fieldLink RX12 299 "HookPierModel" "pier" "LHookPierModel$Pier;", .methodLink RX12 374 yX11_questions, .instanceMethod yX11_questions, .selects RX11 yX11_questions yX11_questions, .initialized RX11, .methodLink RX12 430 yX12_leaves, .instanceMethod yX12_leaves, .selects RX12 yX12_leaves yX12_leaves, .initialized RX12] (apW wsX120 (apW vfX11_questions (vfX12_leaves))))
theorem ifX12_toAsk_X12 : ∀ w ∈ wsX120, w ∈ vfX12_toAsk := fun _ h => (List.mem_cons_of_mem _ (List.mem_append_right _ (List.mem_append_left _ h)))
theorem qfX12_toAsk : Good vfX12_toAsk := gd_cons (by decide +kernel) (gd_app (gd_dec (by decide +kernel) : Good [.fieldLink RX12 427 "HookPierModel" "askLeft" "I", .fieldLink RX12 299 "HookPierModel" "pier" "LHookPierModel$Pier;", .methodLink RX12 374 yX11_questions, .instanceMethod yX11_questions, .selects RX11 yX11_questions yX11_questions, .initialized RX11, .methodLink RX12 430 yX12_leaves, .instanceMethod yX12_leaves, .selects RX12 yX12_leaves yX12_leaves, .initialized RX12]) (gd_app qsX12 (gd_app qfX11_questions qfX12_leaves)))
theorem gfX12_toAsk_0 : GoodIn vfX12_toAsk (wsV RX12 374 RX11 yX11_questions vfX11_questions) := goodIn_app (goodIn_r [.methodLink RX12 374 yX11_questions, .instanceMethod yX11_questions, .selects RX11 yX11_questions yX11_questions, .initialized RX11] [3, 4, 5, 6] rfl (by decide +kernel)) (goodIn_m (fun _ h => (List.mem_cons_of_mem _ (List.mem_append_right _ (List.mem_append_right _ (List.mem_append_left _ h))))) qfX11_questions)
theorem gfX12_toAsk_1 : GoodIn vfX12_toAsk (wsV RX12 430 RX12 yX12_leaves vfX12_leaves) := goodIn_app (goodIn_r [.methodLink RX12 430 yX12_leaves, .instanceMethod yX12_leaves, .selects RX12 yX12_leaves yX12_leaves, .initialized RX12] [7, 8, 9, 10] rfl (by decide +kernel)) (goodIn_m (fun _ h => (List.mem_cons_of_mem _ (List.mem_append_right _ (List.mem_append_right _ (List.mem_append_right _ h))))) qfX12_leaves)
set_option maxHeartbeats 2000000 in
set_option maxRecDepth 100000 in
theorem kfX12_toAsk (l : Launch) (dC : Nat → ClassId) (dI : Nat → Nat → Nat) (a0 : Nat) (a1 : Nat) (uq : Nat → Nat) (kq : Nat → ClassId) (m_k : TX12_k) (g5 : Value) (g6 : Value) (g7 : Value) (g8 : Value) (g9 : Value) (g10 : Value) (g11 : Value) (g12 : Value) (g13 : Value) (g14 : Value) (g15 : Value) (g16 : Value) (g17 : Value) (g18 : Value) (g19 : Value) (g20 : Value) (g21 : Value) (g22 : Value) (g23 : Value) (g24 : Value) (g25 : Value) (g26 : Value) (g27 : Value) (g28 : Value) (g29 : Value) (g30 : Value) (q_q : TX11_q) (sz : Nat) (out : (Int32 × TX12_k)) (h : f_X12_toAsk m_k q_q = some out) : Met l yX12_toAsk vfX12_toAsk ({ frames := 5, cells := 0, slots := 0, locals := 116 }) (PC (dC, dI) [.ref a0] sz ((a0, .inr (9, [g5, g6, g7, .ref a1, g8, g9, g10, g11, g12, g13, g14, g15, g16, g17, g18, g19, g20, g21, g22, g23, g24, g25, g26, g27, .int m_k.1, .int m_k.2.1, .int m_k.2.2, g28, g29, g30])) :: bX11 a1 uq kq q_q []) (tX11 kq ([]))) (va_Qi (S := Unit) (fun (r : Int32) _ => r = out.1) (fun _ t => BC (dC, dI) (va_A ((a0, .inr (9, [g5, g6, g7, .ref a1, g8, g9, g10, g11, g12, g13, g14, g15, g16, g17, g18, g19, g20, g21, g22, g23, g24, g25, g26, g27, .int m_k.1, .int m_k.2.1, .int m_k.2.2, g28, g29, g30])) :: bX11 a1 uq kq q_q []) sz) ((a0, .inr (9, [g5, g6, g7, .ref a1, g8, g9, g10, g11, g12, g13, g14, g15, g16, g17, g18, g19, g20, g21, g22, g23, g24, g25, g26, g27, .int out.2.1, .int out.2.2.1, .int out.2.2.2, g28, g29, g30])) :: bX11 a1 uq kq q_q []) [] t) (va_A ((a0, .inr (9, [g5, g6, g7, .ref a1, g8, g9, g10, g11, g12, g13, g14, g15, g16, g17, g18, g19, g20, g21, g22, g23, g24, g25, g26, g27, .int m_k.1, .int m_k.2.1, .int m_k.2.2, g28, g29, g30])) :: bX11 a1 uq kq q_q []) sz)) 0 0 (va_A ((a0, .inr (9, [g5, g6, g7, .ref a1, g8, g9, g10, g11, g12, g13, g14, g15, g16, g17, g18, g19, g20, g21, g22, g23, g24, g25, g26, g27, .int m_k.1, .int m_k.2.1, .int m_k.2.2, g28, g29, g30])) :: bX11 a1 uq kq q_q []) sz) := by
  refine Met.ofW (cc := cX12_toAsk) (maxL := 4) (ret := (some .int)) (by decide) rfl ?_
  intro p e s m args below meth c s₁ B0 hml hv
  obtain ⟨rfl, hsz, hP, hK, hD0, hN⟩ := hv
  have hx := B0.exec
  have hb := B0.bytes
  have hr := B0.returns
  have hts := atoms_spec (ws := vfX12_toAsk) B0.pre
  have hown : s.vm.findClass RX12 = some m.cls := findClass_of_methodNamed B0.named
  have hlocks := B0.notSynchronized
  subst hsz
  have hD := hD0.self (sz := s.heap.size)
  generalize hAe : va_A ((a0, .inr (9, [g5, g6, g7, .ref a1, g8, g9, g10, g11, g12, g13, g14, g15, g16, g17, g18, g19, g20, g21, g22, g23, g24, g25, g26, g27, .int m_k.1, .int m_k.2.1, .int m_k.2.2, g28, g29, g30])) :: bX11 a1 uq kq q_q []) s.heap.size = A at hD ⊢
  have hA : ∀ q : Nat, s.heap.size ≤ q → A q := fun q h => by rw [← hAe]; exact Or.inr h
  have hS : va_S A s.heap s.heap [] := va_S.rf
  have hP : va_P (dC, dI) vwCl ((a0, .inr (9, [g5, g6, g7, .ref a1, g8, g9, g10, g11, g12, g13, g14, g15, g16, g17, g18, g19, g20, g21, g22, g23, g24, g25, g26, g27, .int m_k.1, .int m_k.2.1, .int m_k.2.2, g28, g29, g30])) :: bX11 a1 uq kq q_q []) s.heap := hP
  have hl := lv_entry ([.ref a0]) (n := 4) (Nat.le_of_ble_eq_true rfl)
  rw [lg_entry_eq]
  generalize (lg_sl ([.ref a0]) ++ List.replicate (4 - (lg_sl ([.ref a0])).length) Slot.unset).toArray = ls at hl ⊢
  have hl : lv_has ls 4 [(0, .ref a0)] := hl
  refine W_q (fun QQ hQQ => ?_)
  rw [f_X12_toAsk] at h
  refine lv_bipush (v := (-2)) hx hb dX12_toAsk_0 (by decide) ?_
  refine lv_istore_n (lv' := [(1, .int (-2)), (0, .ref a0)]) hx hb dX12_toAsk_2 rfl hl (by decide) rfl (fun ls hl => ?_)
  refine lv_aload_n hx hb dX12_toAsk_3 rfl (lv_at hl 1 rfl) ?_
  refine lv_bipush (v := (-2)) hx hb dX12_toAsk_4 (by decide) ?_
  refine va_put (D := (dC, dI)) (ci := 9) (v := .int (-2)) (ty := .int) (C := RX12) (T := TX12) (N := 30) hx hb hts ifX12_toAsk_X12 tyX12 tyX12_ok nmX12 hown hK hP hD hS 0 rfl rfl 24 (by decide) (hts (.fieldLink RX12 427 "HookPierModel" "askLeft" "I") (List.mem_of_getElem? (i := 1) rfl)) (fun _ h9 => h9) rfl (by decide +kernel) rfl rfl (Nat.le_of_ble_eq_true rfl) dX12_toAsk_6 (fun H locs hP hD hS => ?_)
  have hP : va_P (dC, dI) vwCl ((a0, .inr (9, [g5, g6, g7, .ref a1, g8, g9, g10, g11, g12, g13, g14, g15, g16, g17, g18, g19, g20, g21, g22, g23, g24, g25, g26, g27, .int (-2), .int m_k.2.1, .int m_k.2.2, g28, g29, g30])) :: bX11 a1 uq kq q_q []) H := hP
  have hD : va_D A ((a0, .inr (9, [g5, g6, g7, .ref a1, g8, g9, g10, g11, g12, g13, g14, g15, g16, g17, g18, g19, g20, g21, g22, g23, g24, g25, g26, g27, .int (-2), .int m_k.2.1, .int m_k.2.2, g28, g29, g30])) :: bX11 a1 uq kq q_q []) := hD
  refine lv_iconst (v := 0) hx hb dX12_toAsk_9 (by decide) ?_
  refine lv_istore_n (lv' := [(2, .int 0), (1, .int (-2)), (0, .ref a0)]) hx hb dX12_toAsk_10 rfl hl (by decide) rfl (fun ls hl => ?_)
  have L11 : ∀ (n11 : Nat) (v11_l2 : Int32) (v11_l1 : Int32) (v11_m_k : TX12_k) (H : Heap) (locs : List Loc) (ls : Array Slot), f_X12_toAsk_L11 q_q n11 v11_l2 v11_l1 v11_m_k = some out → va_P (dC, dI) vwCl ((a0, .inr (9, [g5, g6, g7, .ref a1, g8, g9, g10, g11, g12, g13, g14, g15, g16, g17, g18, g19, g20, g21, g22, g23, g24, g25, g26, g27, .int v11_m_k.1, .int v11_m_k.2.1, .int v11_m_k.2.2, g28, g29, g30])) :: bX11 a1 uq kq q_q []) H → va_D A ((a0, .inr (9, [g5, g6, g7, .ref a1, g8, g9, g10, g11, g12, g13, g14, g15, g16, g17, g18, g19, g20, g21, g22, g23, g24, g25, g26, g27, .int v11_m_k.1, .int v11_m_k.2.1, .int v11_m_k.2.2, g28, g29, g30])) :: bX11 a1 uq kq q_q []) → va_S A s.heap H locs → lv_has ls 4 [(2, .int v11_l2), (1, .int v11_l1), (0, .ref a0)] → W p l e (headSpec vfX12_toAsk { frames := 5, cells := 0, slots := 0, locals := 116 }).room s m ([.ref a0]).toArray below meth c H locs 0 0 QQ (F0 m 11 ls []) := by
    intro n11
    induction n11 with
    | zero =>
      intro v11_l2 v11_l1 v11_m_k H locs ls h  _ _ _ _
      rw [f_X12_toAsk_L11] at h
      cases h
    | succ n11 ih11 =>
      intro v11_l2 v11_l1 v11_m_k H locs ls h  hP hD hS hl
      rw [f_X12_toAsk_L11] at h
      refine lv_iload_n hx hb dX12_toAsk_11 rfl (lv_at hl 0 rfl) ?_
      refine lv_aload_n hx hb dX12_toAsk_12 rfl (lv_at hl 2 rfl) ?_
      refine va_get (D := (dC, dI)) (ci := 9) (v := .ref a1) (C := RX12) (T := TX12) (N := 30) hx hb hts ifX12_toAsk_X12 hown hK hP 0 rfl rfl 3 (by decide) (hts (.fieldLink RX12 299 "HookPierModel" "pier" "LHookPierModel$Pier;") (List.mem_of_getElem? (i := 2) rfl)) (fun _ h9 => h9) rfl dX12_toAsk_13 ?_
      obtain ⟨o16, eo16⟩ : ∃ o, o = f_X11_questions q_q := ⟨_, rfl⟩
      have h := nm_of h o16 eo16
      refine cl_i (wc := (bX11 a1 uq kq q_q [])) (wr := ([(a0, .inr (9, [g5, g6, g7, .ref a1, g8, g9, g10, g11, g12, g13, g14, g15, g16, g17, g18, g19, g20, g21, g22, g23, g24, g25, g26, g27, .int v11_m_k.1, .int v11_m_k.2.1, .int v11_m_k.2.2, g28, g29, g30]))])) (va_runV (As := []) (rest := [.int v11_l2]) ⟨hx, hb, hml, hown, hts⟩ (kfX11_questions l dC dI a1 uq kq q_q H.size o16 eo16.symm) (cwV 0 hts gfX12_toAsk_0 rfl rfl rfl (by decide +kernel) ⟨(Nat.le_of_ble_eq_true rfl), (Nat.le_of_ble_eq_true rfl)⟩) (PV (hP.sub (ws' := (bX11 a1 uq kq q_q [])) [1, 2, 3, 4, 5, 6, 7, 8, 9, 10, 11, 12, 13, 14, 15] rfl) (hK.sub (tys' := (tX11 kq ([]))) [0, 1, 2, 3, 4, 5, 6, 7, 8, 9, 10, 11, 12, 13] rfl) (hD.sub (ws' := (bX11 a1 uq kq q_q [])) [1, 2, 3, 4, 5, 6, 7, 8, 9, 10, 11, 12, 13, 14, 15] (by decide) rfl) hN 0 rfl rfl) rfl rfl hl.1 rfl (lv_room (Nat.le_of_ble_eq_true rfl)) dX12_toAsk_16 ⟨(Nat.le_of_ble_eq_true rfl), (Nat.le_of_ble_eq_true rfl)⟩) hP hD hK hS hA [1, 2, 3, 4, 5, 6, 7, 8, 9, 10, 11, 12, 13, 14, 15] [0] rfl rfl (by decide) (by decide) (fun r16 _ H locs hw hP hD _ hS => ?_)
      obtain rfl := hw.symm
      have hP : va_P (dC, dI) vwCl ((a0, .inr (9, [g5, g6, g7, .ref a1, g8, g9, g10, g11, g12, g13, g14, g15, g16, g17, g18, g19, g20, g21, g22, g23, g24, g25, g26, g27, .int v11_m_k.1, .int v11_m_k.2.1, .int v11_m_k.2.2, g28, g29, g30])) :: bX11 a1 uq kq q_q []) H := hP
      have hD : va_D A ((a0, .inr (9, [g5, g6, g7, .ref a1, g8, g9, g10, g11, g12, g13, g14, g15, g16, g17, g18, g19, g20, g21, g22, g23, g24, g25, g26, g27, .int v11_m_k.1, .int v11_m_k.2.1, .int v11_m_k.2.2, g28, g29, g30])) :: bX11 a1 uq kq q_q []) := hD
      refine lv_icmp_ge (tgt := 62) hx hb dX12_toAsk_19 (by decide) (fun c19 => ?_) (fun c19 => ?_)
      · have h := (if_pos c19).symm.trans h
        refine lv_iload_n hx hb dX12_toAsk_62 rfl (lv_at hl 1 rfl) ?_
        obtain rfl := Option.some.inj h
        have hP9 := hP.sub (ws' := ((a0, .inr (9, [g5, g6, g7, .ref a1, g8, g9, g10, g11, g12, g13, g14, g15, g16, g17, g18, g19, g20, g21, g22, g23, g24, g25, g26, g27, .int v11_m_k.1, .int v11_m_k.2.1, .int v11_m_k.2.2, g28, g29, g30])) :: bX11 a1 uq kq q_q [])) [0, 1, 2, 3, 4, 5, 6, 7, 8, 9, 10, 11, 12, 13, 14, 15] rfl
        have hD9 := hD.sub (ws' := ((a0, .inr (9, [g5, g6, g7, .ref a1, g8, g9, g10, g11, g12, g13, g14, g15, g16, g17, g18, g19, g20, g21, g22, g23, g24, g25, g26, g27, .int v11_m_k.1, .int v11_m_k.2.1, .int v11_m_k.2.2, g28, g29, g30])) :: bX11 a1 uq kq q_q [])) [0, 1, 2, 3, 4, 5, 6, 7, 8, 9, 10, 11, 12, 13, 14, 15] (by decide) rfl
        have hK9 := hK.sub (tys' := []) [] rfl
        rw [hQQ]
        exact W.iret (v := v11_l1) hx hb hr (fun t ht hW => ⟨⟨v11_l1, (), rfl, rfl, by rw [ht]; exact hP9, va_K.moved hW.alike hK9, hD9⟩, hS.F ht⟩) hS.2.2 dX12_toAsk_63
      · have h := (if_neg c19).symm.trans h
        refine lv_aload_n hx hb dX12_toAsk_22 rfl (lv_at hl 2 rfl) ?_
        refine lv_iload_n hx hb dX12_toAsk_23 rfl (lv_at hl 0 rfl) ?_
        obtain ⟨o24, eo24, h⟩ := bd_of h
        refine cl_i (wc := ((a0, .inr (9, [g5, g6, g7, .ref a1, g8, g9, g10, g11, g12, g13, g14, g15, g16, g17, g18, g19, g20, g21, g22, g23, g24, g25, g26, g27, .int v11_m_k.1, .int v11_m_k.2.1, .int v11_m_k.2.2, g28, g29, g30])) :: bX11 a1 uq kq q_q [])) (wr := []) (va_runV (As := [.int v11_l2]) (rest := []) ⟨hx, hb, hml, hown, hts⟩ (kfX12_leaves l dC dI a0 v11_l2 a1 uq kq (g5) (g6) (g7) (g8) (g9) (g10) (g11) (g12) (g13) (g14) (g15) (g16) (g17) (g18) (g19) (g20) (g21) (g22) (g23) (g24) (g25) (g26) (g27) (.int v11_m_k.1) (.int v11_m_k.2.1) (.int v11_m_k.2.2) (g28) (g29) (g30) q_q H.size o24 eo24) (cwV 1 hts gfX12_toAsk_1 rfl rfl rfl (by decide +kernel) ⟨(Nat.le_of_ble_eq_true rfl), (Nat.le_of_ble_eq_true rfl)⟩) (PV (hP.sub (ws' := ((a0, .inr (9, [g5, g6, g7, .ref a1, g8, g9, g10, g11, g12, g13, g14, g15, g16, g17, g18, g19, g20, g21, g22, g23, g24, g25, g26, g27, .int v11_m_k.1, .int v11_m_k.2.1, .int v11_m_k.2.2, g28, g29, g30])) :: bX11 a1 uq kq q_q [])) [0, 1, 2, 3, 4, 5, 6, 7, 8, 9, 10, 11, 12, 13, 14, 15] rfl) (hK.sub (tys' := (tX11 kq ([]))) [0, 1, 2, 3, 4, 5, 6, 7, 8, 9, 10, 11, 12, 13] rfl) (hD.sub (ws' := ((a0, .inr (9, [g5, g6, g7, .ref a1, g8, g9, g10, g11, g12, g13, g14, g15, g16, g17, g18, g19, g20, g21, g22, g23, g24, g25, g26, g27, .int v11_m_k.1, .int v11_m_k.2.1, .int v11_m_k.2.2, g28, g29, g30])) :: bX11 a1 uq kq q_q [])) [0, 1, 2, 3, 4, 5, 6, 7, 8, 9, 10, 11, 12, 13, 14, 15] (by decide) rfl) hN 0 rfl rfl) rfl rfl hl.1 rfl (lv_room (Nat.le_of_ble_eq_true rfl)) dX12_toAsk_24 ⟨(Nat.le_of_ble_eq_true rfl), (Nat.le_of_ble_eq_true rfl)⟩) hP hD hK hS hA [0, 1, 2, 3, 4, 5, 6, 7, 8, 9, 10, 11, 12, 13, 14, 15] [] rfl rfl (by decide) (by decide) (fun r24 _ H locs hw hP hD _ hS => ?_)
        obtain rfl := hw.symm
        have hP : va_P (dC, dI) vwCl ((a0, .inr (9, [g5, g6, g7, .ref a1, g8, g9, g10, g11, g12, g13, g14, g15, g16, g17, g18, g19, g20, g21, g22, g23, g24, g25, g26, g27, .int v11_m_k.1, .int v11_m_k.2.1, .int v11_m_k.2.2, g28, g29, g30])) :: bX11 a1 uq kq q_q []) H := hP
        have hD : va_D A ((a0, .inr (9, [g5, g6, g7, .ref a1, g8, g9, g10, g11, g12, g13, g14, g15, g16, g17, g18, g19, g20, g21, g22, g23, g24, g25, g26, g27, .int v11_m_k.1, .int v11_m_k.2.1, .int v11_m_k.2.2, g28, g29, g30])) :: bX11 a1 uq kq q_q []) := hD
        refine lv_istore_n (lv' := [(3, .int o24), (2, .int v11_l2), (1, .int v11_l1), (0, .ref a0)]) hx hb dX12_toAsk_27 rfl hl (by decide) rfl (fun ls hl => ?_)
        refine lv_iload_n hx hb dX12_toAsk_28 rfl (lv_at hl 0 rfl) ?_
        have J56 : ∀ (v56_l1 : Int32) (v56_m_k : TX12_k) (H : Heap) (locs : List Loc) (ls : Array Slot), f_X12_toAsk_J56 (f_X12_toAsk_L11 q_q n11) v11_l2 v56_l1 v56_m_k = some out → va_P (dC, dI) vwCl ((a0, .inr (9, [g5, g6, g7, .ref a1, g8, g9, g10, g11, g12, g13, g14, g15, g16, g17, g18, g19, g20, g21, g22, g23, g24, g25, g26, g27, .int v56_m_k.1, .int v56_m_k.2.1, .int v56_m_k.2.2, g28, g29, g30])) :: bX11 a1 uq kq q_q []) H → va_D A ((a0, .inr (9, [g5, g6, g7, .ref a1, g8, g9, g10, g11, g12, g13, g14, g15, g16, g17, g18, g19, g20, g21, g22, g23, g24, g25, g26, g27, .int v56_m_k.1, .int v56_m_k.2.1, .int v56_m_k.2.2, g28, g29, g30])) :: bX11 a1 uq kq q_q []) → va_S A s.heap H locs → lv_has ls 4 [(2, .int v11_l2), (1, .int v56_l1), (0, .ref a0)] → W p l e (headSpec vfX12_toAsk { frames := 5, cells := 0, slots := 0, locals := 116 }).room s m ([.ref a0]).toArray below meth c H locs 0 0 QQ (F0 m 56 ls []) := by
          intro v56_l1 v56_m_k H locs ls h  hP hD hS hl
          rw [f_X12_toAsk_J56] at h
          refine lv_iinc (v := (v11_l2 + (1 : Int32))) (lv' := [(2, .int (v11_l2 + (1 : Int32))), (1, .int v56_l1), (0, .ref a0)]) hx hb dX12_toAsk_56 hl (k := 0) rfl rfl (by decide) rfl (fun ls hl => ?_)
          refine lv_goto (tgt := 11) hx hb dX12_toAsk_59 (by decide) ?_
          exact ih11 (v11_l2 + (1 : Int32)) v56_l1 v56_m_k H _ ls h  hP hD hS (lv_sub hl [0, 1, 2] rfl)
        refine lv_if_eq (tgt := 56) hx hb dX12_toAsk_29 (by decide) (fun c29 => ?_) (fun c29 => ?_)
        · have h := (if_pos c29).symm.trans h
          exact J56 v11_l1 v11_m_k H _ ls h  hP hD hS (lv_sub hl [1, 2, 3] rfl)
        · have h := (if_neg c29).symm.trans h
          refine lv_iload_n hx hb dX12_toAsk_32 rfl (lv_at hl 2 rfl) ?_
          refine lv_bipush (v := (-2)) hx hb dX12_toAsk_33 (by decide) ?_
          have J49 : ∀ (H : Heap) (locs : List Loc) (ls : Array Slot), f_X12_toAsk_J49 (f_X12_toAsk_L11 q_q n11) o24 v11_l2 v11_m_k = some out → va_P (dC, dI) vwCl ((a0, .inr (9, [g5, g6, g7, .ref a1, g8, g9, g10, g11, g12, g13, g14, g15, g16, g17, g18, g19, g20, g21, g22, g23, g24, g25, g26, g27, .int v11_m_k.1, .int v11_m_k.2.1, .int v11_m_k.2.2, g28, g29, g30])) :: bX11 a1 uq kq q_q []) H → va_D A ((a0, .inr (9, [g5, g6, g7, .ref a1, g8, g9, g10, g11, g12, g13, g14, g15, g16, g17, g18, g19, g20, g21, g22, g23, g24, g25, g26, g27, .int v11_m_k.1, .int v11_m_k.2.1, .int v11_m_k.2.2, g28, g29, g30])) :: bX11 a1 uq kq q_q []) → va_S A s.heap H locs → lv_has ls 4 [(3, .int o24), (2, .int v11_l2), (0, .ref a0)] → W p l e (headSpec vfX12_toAsk { frames := 5, cells := 0, slots := 0, locals := 116 }).room s m ([.ref a0]).toArray below meth c H locs 0 0 QQ (F0 m 49 ls []) := by
            intro  H locs ls h  hP hD hS hl
            rw [f_X12_toAsk_J49] at h
            refine lv_aload_n hx hb dX12_toAsk_49 rfl (lv_at hl 2 rfl) ?_
            refine lv_iload_n hx hb dX12_toAsk_50 rfl (lv_at hl 0 rfl) ?_
            refine va_put (D := (dC, dI)) (ci := 9) (v := .int o24) (ty := .int) (C := RX12) (T := TX12) (N := 30) hx hb hts ifX12_toAsk_X12 tyX12 tyX12_ok nmX12 hown hK hP hD hS 0 rfl rfl 24 (by decide) (hts (.fieldLink RX12 427 "HookPierModel" "askLeft" "I") (List.mem_of_getElem? (i := 1) rfl)) (fun _ h9 => h9) rfl (by decide +kernel) rfl rfl (Nat.le_of_ble_eq_true rfl) dX12_toAsk_51 (fun H locs hP hD hS => ?_)
            have hP : va_P (dC, dI) vwCl ((a0, .inr (9, [g5, g6, g7, .ref a1, g8, g9, g10, g11, g12, g13, g14, g15, g16, g17, g18, g19, g20, g21, g22, g23, g24, g25, g26, g27, .int o24, .int v11_m_k.2.1, .int v11_m_k.2.2, g28, g29, g30])) :: bX11 a1 uq kq q_q []) H := hP
            have hD : va_D A ((a0, .inr (9, [g5, g6, g7, .ref a1, g8, g9, g10, g11, g12, g13, g14, g15, g16, g17, g18, g19, g20, g21, g22, g23, g24, g25, g26, g27, .int o24, .int v11_m_k.2.1, .int v11_m_k.2.2, g28, g29, g30])) :: bX11 a1 uq kq q_q []) := hD
            refine lv_iload_n hx hb dX12_toAsk_54 rfl (lv_at hl 1 rfl) ?_
            refine lv_istore_n (lv' := [(1, .int v11_l2), (3, .int o24), (2, .int v11_l2), (0, .ref a0)]) hx hb dX12_toAsk_55 rfl hl (by decide) rfl (fun ls hl => ?_)
            exact J56 v11_l2 (o24, v11_m_k.2) H _ ls h  hP hD hS (lv_sub hl [2, 0, 3] rfl)
          refine lv_icmp_eq (tgt := 49) hx hb dX12_toAsk_35 (by decide) (fun c35 => ?_) (fun c35 => ?_)
          · have h := (if_pos c35).symm.trans h
            exact J49  H _ ls h  hP hD hS (lv_sub hl [0, 1, 3] rfl)
          · have h := (if_neg c35).symm.trans h
            refine lv_iload_n hx hb dX12_toAsk_38 rfl (lv_at hl 0 rfl) ?_
            refine lv_aload_n hx hb dX12_toAsk_39 rfl (lv_at hl 3 rfl) ?_
            refine va_get (D := (dC, dI)) (ci := 9) (v := .int v11_m_k.1) (C := RX12) (T := TX12) (N := 30) hx hb hts ifX12_toAsk_X12 hown hK hP 0 rfl rfl 24 (by decide) (hts (.fieldLink RX12 427 "HookPierModel" "askLeft" "I") (List.mem_of_getElem? (i := 1) rfl)) (fun _ h9 => h9) rfl dX12_toAsk_40 ?_
            refine lv_icmp_lt (tgt := 49) hx hb dX12_toAsk_43 (by decide) (fun c43 => ?_) (fun c43 => ?_)
            · have h := (if_pos c43).symm.trans h
              exact J49  H _ ls h  hP hD hS (lv_sub hl [0, 1, 3] rfl)
            · have h := (if_neg c43).symm.trans h
              refine lv_goto (tgt := 56) hx hb dX12_toAsk_46 (by decide) ?_
              exact J56 v11_l1 v11_m_k H _ ls h  hP hD hS (lv_sub hl [1, 2, 3] rfl)
  exact L11 FU (0 : Int32) (-2 : Int32) ((-2 : Int32), m_k.2) H _ ls h  hP hD hS (lv_sub hl [0, 1, 2] rfl)
theorem dX12_ask_0 : decode cX12_ask 0 = .ok (.aload_n 0, 1) := by decide +kernel
theorem dX12_ask_1 : decode cX12_ask 1 = .ok (.iconst 0, 1) := by decide +kernel
theorem dX12_ask_10 : decode cX12_ask 10 = .ok (.iload_n 1, 1) := by decide +kernel
theorem dX12_ask_11 : decode cX12_ask 11 = .ok (.ifCond .le 9, 3) := by decide +kernel
theorem dX12_ask_14 : decode cX12_ask 14 = .ok (.aload_n 0, 1) := by decide +kernel
theorem dX12_ask_15 : decode cX12_ask 15 = .ok (.iload_n 1, 1) := by decide +kernel
theorem dX12_ask_16 : decode cX12_ask 16 = .ok (.invokevirtual 42, 3) := by decide +kernel
theorem dX12_ask_19 : decode cX12_ask 19 = .ok (.ireturn, 1) := by decide +kernel
theorem dX12_ask_2 : decode cX12_ask 2 = .ok (.putfield 36, 3) := by decide +kernel
theorem dX12_ask_20 : decode cX12_ask 20 = .ok (.aload_n 0, 1) := by decide +kernel
theorem dX12_ask_21 : decode cX12_ask 21 = .ok (.invokevirtual 433, 3) := by decide +kernel
theorem dX12_ask_24 : decode cX12_ask 24 = .ok (.istore_n 2, 1) := by decide +kernel
theorem dX12_ask_25 : decode cX12_ask 25 = .ok (.aload_n 0, 1) := by decide +kernel
theorem dX12_ask_26 : decode cX12_ask 26 = .ok (.iload_n 2, 1) := by decide +kernel
theorem dX12_ask_27 : decode cX12_ask 27 = .ok (.bipush (-2), 2) := by decide +kernel
theorem dX12_ask_29 : decode cX12_ask 29 = .ok (.if_icmp .ne 8, 3) := by decide +kernel
theorem dX12_ask_32 : decode cX12_ask 32 = .ok (.bipush (-2), 2) := by decide +kernel
theorem dX12_ask_34 : decode cX12_ask 34 = .ok (.goto 8, 3) := by decide +kernel
theorem dX12_ask_37 : decode cX12_ask 37 = .ok (.aload_n 0, 1) := by decide +kernel
theorem dX12_ask_38 : decode cX12_ask 38 = .ok (.iload_n 2, 1) := by decide +kernel
theorem dX12_ask_39 : decode cX12_ask 39 = .ok (.invokevirtual 383, 3) := by decide +kernel
theorem dX12_ask_42 : decode cX12_ask 42 = .ok (.invokevirtual 46, 3) := by decide +kernel
theorem dX12_ask_45 : decode cX12_ask 45 = .ok (.ireturn, 1) := by decide +kernel
theorem dX12_ask_5 : decode cX12_ask 5 = .ok (.aload_n 0, 1) := by decide +kernel
theorem dX12_ask_6 : decode cX12_ask 6 = .ok (.invokevirtual 417, 3) := by decide +kernel
theorem dX12_ask_9 : decode cX12_ask 9 = .ok (.istore_n 1, 1) := by decide +kernel
def vfX12_ask : List Cond := List.cons (.code yX12_ask cX12_ask 3 (some .int)) (apW [.fieldLink RX12 36 "HookPierModel" "thrown" "I", .methodLink RX12 417 yX12_refusesDark, .instanceMethod yX12_refusesDark, .selects RX12 yX12_refusesDark yX12_refusesDark, .initialized RX12, .methodLink RX12 433 yX12_toAsk, .instanceMethod yX12_toAsk, .selects RX12 yX12_toAsk yX12_toAsk, .methodLink RX12 46 yX12_good, .instanceMethod yX12_good, .selects RX12 yX12_good yX12_good, .methodLink RX12 383 yX12_codeOf, .instanceMethod yX12_codeOf, .selects RX12 yX12_codeOf yX12_codeOf, .methodLink RX12 42 yX12_refused, .instanceMethod yX12_refused, .selects RX12 yX12_refused yX12_refused] (apW wsX120 (apW vfX12_refusesDark (apW vfX12_toAsk (apW vfX12_good (apW vfX12_codeOf (vfX12_refused)))))))
theorem ifX12_ask_X12 : ∀ w ∈ wsX120, w ∈ vfX12_ask := fun _ h => (List.mem_cons_of_mem _ (List.mem_append_right _ (List.mem_append_left _ h)))
theorem qfX12_ask : Good vfX12_ask := gd_cons (by decide +kernel) (gd_app (gd_dec (by decide +kernel) : Good [.fieldLink RX12 36 "HookPierModel" "thrown" "I", .methodLink RX12 417 yX12_refusesDark, .instanceMethod yX12_refusesDark, .selects RX12 yX12_refusesDark yX12_refusesDark, .initialized RX12, .methodLink RX12 433 yX12_toAsk, .instanceMethod yX12_toAsk, .selects RX12 yX12_toAsk yX12_toAsk, .methodLink RX12 46 yX12_good, .instanceMethod yX12_good, .selects RX12 yX12_good yX12_good, .methodLink RX12 383 yX12_codeOf, .instanceMethod yX12_codeOf, .selects RX12 yX12_codeOf yX12_codeOf, .methodLink RX12 42 yX12_refused, .instanceMethod yX12_refused, .selects RX12 yX12_refused yX12_refused]) (gd_app qsX12 (gd_app qfX12_refusesDark (gd_app qfX12_toAsk (gd_app qfX12_good (gd_app qfX12_codeOf qfX12_refused))))))
theorem gfX12_ask_0 : GoodIn vfX12_ask (wsV RX12 417 RX12 yX12_refusesDark vfX12_refusesDark) := goodIn_app (goodIn_r [.methodLink RX12 417 yX12_refusesDark, .instanceMethod yX12_refusesDark, .selects RX12 yX12_refusesDark yX12_refusesDark, .initialized RX12] [2, 3, 4, 5] rfl (by decide +kernel)) (goodIn_m (fun _ h => (List.mem_cons_of_mem _ (List.mem_append_right _ (List.mem_append_right _ (List.mem_append_left _ h))))) qfX12_refusesDark)
theorem gfX12_ask_1 : GoodIn vfX12_ask (wsV RX12 433 RX12 yX12_toAsk vfX12_toAsk) := goodIn_app (goodIn_r [.methodLink RX12 433 yX12_toAsk, .instanceMethod yX12_toAsk, .selects RX12 yX12_toAsk yX12_toAsk, .initialized RX12] [6, 7, 8, 5] rfl (by decide +kernel)) (goodIn_m (fun _ h => (List.mem_cons_of_mem _ (List.mem_append_right _ (List.mem_append_right _ (List.mem_append_right _ (List.mem_append_left _ h)))))) qfX12_toAsk)
theorem gfX12_ask_2 : GoodIn vfX12_ask (wsV RX12 46 RX12 yX12_good vfX12_good) := goodIn_app (goodIn_r [.methodLink RX12 46 yX12_good, .instanceMethod yX12_good, .selects RX12 yX12_good yX12_good, .initialized RX12] [9, 10, 11, 5] rfl (by decide +kernel)) (goodIn_m (fun _ h => (List.mem_cons_of_mem _ (List.mem_append_right _ (List.mem_append_right _ (List.mem_append_right _ (List.mem_append_right _ (List.mem_append_left _ h))))))) qfX12_good)
theorem gfX12_ask_3 : GoodIn vfX12_ask (wsV RX12 383 RX12 yX12_codeOf vfX12_codeOf) := goodIn_app (goodIn_r [.methodLink RX12 383 yX12_codeOf, .instanceMethod yX12_codeOf, .selects RX12 yX12_codeOf yX12_codeOf, .initialized RX12] [12, 13, 14, 5] rfl (by decide +kernel)) (goodIn_m (fun _ h => (List.mem_cons_of_mem _ (List.mem_append_right _ (List.mem_append_right _ (List.mem_append_right _ (List.mem_append_right _ (List.mem_append_right _ (List.mem_append_left _ h)))))))) qfX12_codeOf)
theorem gfX12_ask_4 : GoodIn vfX12_ask (wsV RX12 42 RX12 yX12_refused vfX12_refused) := goodIn_app (goodIn_r [.methodLink RX12 42 yX12_refused, .instanceMethod yX12_refused, .selects RX12 yX12_refused yX12_refused, .initialized RX12] [15, 16, 17, 5] rfl (by decide +kernel)) (goodIn_m (fun _ h => (List.mem_cons_of_mem _ (List.mem_append_right _ (List.mem_append_right _ (List.mem_append_right _ (List.mem_append_right _ (List.mem_append_right _ (List.mem_append_right _ h)))))))) qfX12_refused)
set_option maxHeartbeats 2000000 in
set_option maxRecDepth 100000 in
theorem kfX12_ask (l : Launch) (dC : Nat → ClassId) (dI : Nat → Nat → Nat) (a0 : Nat) (a1 : Nat) (uq : Nat → Nat) (kq : Nat → ClassId) (m_t : TX12_t) (m_k : TX12_k) (g6 : Value) (g7 : Value) (g8 : Value) (g9 : Value) (g10 : Value) (g11 : Value) (g12 : Value) (g13 : Value) (g14 : Value) (g15 : Value) (g16 : Value) (g17 : Value) (g18 : Value) (g19 : Value) (g20 : Value) (g21 : Value) (g22 : Value) (g23 : Value) (g24 : Value) (g25 : Value) (g26 : Value) (g27 : Value) (g28 : Value) (q_q : TX11_q) (sz : Nat) (out : (Int32 × TX12_t × TX12_k)) (h : f_X12_ask m_t m_k q_q = some out) : Met l yX12_ask vfX12_ask ({ frames := 6, cells := 0, slots := 0, locals := 139 }) (PC (dC, dI) [.ref a0] sz ((a0, .inr (9, [.int m_t.1, .int m_t.2.1, .int m_t.2.2, .ref a1, g6, g7, g8, g9, g10, g11, g12, g13, g14, g15, g16, g17, g18, g19, g20, g21, g22, g23, g24, g25, .int m_k.1, .int m_k.2.1, .int m_k.2.2, g26, g27, g28])) :: bX11 a1 uq kq q_q []) (tX11 kq ([]))) (va_Qi (S := Unit) (fun (r : Int32) _ => r = out.1) (fun _ t => BC (dC, dI) (va_A ((a0, .inr (9, [.int m_t.1, .int m_t.2.1, .int m_t.2.2, .ref a1, g6, g7, g8, g9, g10, g11, g12, g13, g14, g15, g16, g17, g18, g19, g20, g21, g22, g23, g24, g25, .int m_k.1, .int m_k.2.1, .int m_k.2.2, g26, g27, g28])) :: bX11 a1 uq kq q_q []) sz) ((a0, .inr (9, [.int out.2.1.1, .int out.2.1.2.1, .int out.2.1.2.2, .ref a1, g6, g7, g8, g9, g10, g11, g12, g13, g14, g15, g16, g17, g18, g19, g20, g21, g22, g23, g24, g25, .int out.2.2.1, .int out.2.2.2.1, .int out.2.2.2.2, g26, g27, g28])) :: bX11 a1 uq kq q_q []) [] t) (va_A ((a0, .inr (9, [.int m_t.1, .int m_t.2.1, .int m_t.2.2, .ref a1, g6, g7, g8, g9, g10, g11, g12, g13, g14, g15, g16, g17, g18, g19, g20, g21, g22, g23, g24, g25, .int m_k.1, .int m_k.2.1, .int m_k.2.2, g26, g27, g28])) :: bX11 a1 uq kq q_q []) sz)) 0 0 (va_A ((a0, .inr (9, [.int m_t.1, .int m_t.2.1, .int m_t.2.2, .ref a1, g6, g7, g8, g9, g10, g11, g12, g13, g14, g15, g16, g17, g18, g19, g20, g21, g22, g23, g24, g25, .int m_k.1, .int m_k.2.1, .int m_k.2.2, g26, g27, g28])) :: bX11 a1 uq kq q_q []) sz) := by
  refine Met.ofW (cc := cX12_ask) (maxL := 3) (ret := (some .int)) (by decide) rfl ?_
  intro p e s m args below meth c s₁ B0 hml hv
  obtain ⟨rfl, hsz, hP, hK, hD0, hN⟩ := hv
  have hx := B0.exec
  have hb := B0.bytes
  have hr := B0.returns
  have hts := atoms_spec (ws := vfX12_ask) B0.pre
  have hown : s.vm.findClass RX12 = some m.cls := findClass_of_methodNamed B0.named
  have hlocks := B0.notSynchronized
  subst hsz
  have hD := hD0.self (sz := s.heap.size)
  generalize hAe : va_A ((a0, .inr (9, [.int m_t.1, .int m_t.2.1, .int m_t.2.2, .ref a1, g6, g7, g8, g9, g10, g11, g12, g13, g14, g15, g16, g17, g18, g19, g20, g21, g22, g23, g24, g25, .int m_k.1, .int m_k.2.1, .int m_k.2.2, g26, g27, g28])) :: bX11 a1 uq kq q_q []) s.heap.size = A at hD ⊢
  have hA : ∀ q : Nat, s.heap.size ≤ q → A q := fun q h => by rw [← hAe]; exact Or.inr h
  have hS : va_S A s.heap s.heap [] := va_S.rf
  have hP : va_P (dC, dI) vwCl ((a0, .inr (9, [.int m_t.1, .int m_t.2.1, .int m_t.2.2, .ref a1, g6, g7, g8, g9, g10, g11, g12, g13, g14, g15, g16, g17, g18, g19, g20, g21, g22, g23, g24, g25, .int m_k.1, .int m_k.2.1, .int m_k.2.2, g26, g27, g28])) :: bX11 a1 uq kq q_q []) s.heap := hP
  have hl := lv_entry ([.ref a0]) (n := 3) (Nat.le_of_ble_eq_true rfl)
  rw [lg_entry_eq]
  generalize (lg_sl ([.ref a0]) ++ List.replicate (3 - (lg_sl ([.ref a0])).length) Slot.unset).toArray = ls at hl ⊢
  have hl : lv_has ls 3 [(0, .ref a0)] := hl
  refine W_q (fun QQ hQQ => ?_)
  rw [f_X12_ask] at h
  refine lv_aload_n hx hb dX12_ask_0 rfl (lv_at hl 0 rfl) ?_
  refine lv_iconst (v := 0) hx hb dX12_ask_1 (by decide) ?_
  refine va_put (D := (dC, dI)) (ci := 9) (v := .int 0) (ty := .int) (C := RX12) (T := TX12) (N := 30) hx hb hts ifX12_ask_X12 tyX12 tyX12_ok nmX12 hown hK hP hD hS 0 rfl rfl 0 (by decide) (hts (.fieldLink RX12 36 "HookPierModel" "thrown" "I") (List.mem_of_getElem? (i := 1) rfl)) (fun _ h9 => h9) rfl (by decide +kernel) rfl rfl (Nat.le_of_ble_eq_true rfl) dX12_ask_2 (fun H locs hP hD hS => ?_)
  have hP : va_P (dC, dI) vwCl ((a0, .inr (9, [.int 0, .int m_t.2.1, .int m_t.2.2, .ref a1, g6, g7, g8, g9, g10, g11, g12, g13, g14, g15, g16, g17, g18, g19, g20, g21, g22, g23, g24, g25, .int m_k.1, .int m_k.2.1, .int m_k.2.2, g26, g27, g28])) :: bX11 a1 uq kq q_q []) H := hP
  have hD : va_D A ((a0, .inr (9, [.int 0, .int m_t.2.1, .int m_t.2.2, .ref a1, g6, g7, g8, g9, g10, g11, g12, g13, g14, g15, g16, g17, g18, g19, g20, g21, g22, g23, g24, g25, .int m_k.1, .int m_k.2.1, .int m_k.2.2, g26, g27, g28])) :: bX11 a1 uq kq q_q []) := hD
  refine lv_aload_n hx hb dX12_ask_5 rfl (lv_at hl 0 rfl) ?_
  obtain ⟨o6, eo6⟩ : ∃ o, o = f_X12_refusesDark q_q := ⟨_, rfl⟩
  have h := nm_of h o6 eo6
  refine cl_i (wc := ((a0, .inr (9, [.int 0, .int m_t.2.1, .int m_t.2.2, .ref a1, g6, g7, g8, g9, g10, g11, g12, g13, g14, g15, g16, g17, g18, g19, g20, g21, g22, g23, g24, g25, .int m_k.1, .int m_k.2.1, .int m_k.2.2, g26, g27, g28])) :: bX11 a1 uq kq q_q [])) (wr := []) (va_runV (As := []) (rest := []) ⟨hx, hb, hml, hown, hts⟩ (kfX12_refusesDark l dC dI a0 a1 uq kq (.int 0) (.int m_t.2.1) (.int m_t.2.2) (g6) (g7) (g8) (g9) (g10) (g11) (g12) (g13) (g14) (g15) (g16) (g17) (g18) (g19) (g20) (g21) (g22) (g23) (g24) (g25) (.int m_k.1) (.int m_k.2.1) (.int m_k.2.2) (g26) (g27) (g28) q_q H.size o6 eo6.symm) (cwV 0 hts gfX12_ask_0 rfl rfl rfl (by decide +kernel) ⟨(Nat.le_of_ble_eq_true rfl), (Nat.le_of_ble_eq_true rfl)⟩) (PV (hP.sub (ws' := ((a0, .inr (9, [.int 0, .int m_t.2.1, .int m_t.2.2, .ref a1, g6, g7, g8, g9, g10, g11, g12, g13, g14, g15, g16, g17, g18, g19, g20, g21, g22, g23, g24, g25, .int m_k.1, .int m_k.2.1, .int m_k.2.2, g26, g27, g28])) :: bX11 a1 uq kq q_q [])) [0, 1, 2, 3, 4, 5, 6, 7, 8, 9, 10, 11, 12, 13, 14, 15] rfl) (hK.sub (tys' := (tX11 kq ([]))) [0, 1, 2, 3, 4, 5, 6, 7, 8, 9, 10, 11, 12, 13] rfl) (hD.sub (ws' := ((a0, .inr (9, [.int 0, .int m_t.2.1, .int m_t.2.2, .ref a1, g6, g7, g8, g9, g10, g11, g12, g13, g14, g15, g16, g17, g18, g19, g20, g21, g22, g23, g24, g25, .int m_k.1, .int m_k.2.1, .int m_k.2.2, g26, g27, g28])) :: bX11 a1 uq kq q_q [])) [0, 1, 2, 3, 4, 5, 6, 7, 8, 9, 10, 11, 12, 13, 14, 15] (by decide) rfl) hN 0 rfl rfl) rfl rfl hl.1 rfl (lv_room (Nat.le_of_ble_eq_true rfl)) dX12_ask_6 ⟨(Nat.le_of_ble_eq_true rfl), (Nat.le_of_ble_eq_true rfl)⟩) hP hD hK hS hA [0, 1, 2, 3, 4, 5, 6, 7, 8, 9, 10, 11, 12, 13, 14, 15] [] rfl rfl (by decide) (by decide) (fun r6 _ H locs hw hP hD _ hS => ?_)
  obtain rfl := hw.symm
  have hP : va_P (dC, dI) vwCl ((a0, .inr (9, [.int 0, .int m_t.2.1, .int m_t.2.2, .ref a1, g6, g7, g8, g9, g10, g11, g12, g13, g14, g15, g16, g17, g18, g19, g20, g21, g22, g23, g24, g25, .int m_k.1, .int m_k.2.1, .int m_k.2.2, g26, g27, g28])) :: bX11 a1 uq kq q_q []) H := hP
  have hD : va_D A ((a0, .inr (9, [.int 0, .int m_t.2.1, .int m_t.2.2, .ref a1, g6, g7, g8, g9, g10, g11, g12, g13, g14, g15, g16, g17, g18, g19, g20, g21, g22, g23, g24, g25, .int m_k.1, .int m_k.2.1, .int m_k.2.2, g26, g27, g28])) :: bX11 a1 uq kq q_q []) := hD
  refine lv_istore_n (lv' := [(1, .int o6), (0, .ref a0)]) hx hb dX12_ask_9 rfl hl (by decide) rfl (fun ls hl => ?_)
  refine lv_iload_n hx hb dX12_ask_10 rfl (lv_at hl 0 rfl) ?_
  refine lv_if_le (tgt := 20) hx hb dX12_ask_11 (by decide) (fun c11 => ?_) (fun c11 => ?_)
  · have h := (if_pos c11).symm.trans h
    refine lv_aload_n hx hb dX12_ask_20 rfl (lv_at hl 1 rfl) ?_
    obtain ⟨o21, eo21, h⟩ := bd_of h
    refine cl_i (wc := ((a0, .inr (9, [.int 0, .int m_t.2.1, .int m_t.2.2, .ref a1, g6, g7, g8, g9, g10, g11, g12, g13, g14, g15, g16, g17, g18, g19, g20, g21, g22, g23, g24, g25, .int m_k.1, .int m_k.2.1, .int m_k.2.2, g26, g27, g28])) :: bX11 a1 uq kq q_q [])) (wr := []) (va_runV (As := []) (rest := []) ⟨hx, hb, hml, hown, hts⟩ (kfX12_toAsk l dC dI a0 a1 uq kq m_k (.int 0) (.int m_t.2.1) (.int m_t.2.2) (g6) (g7) (g8) (g9) (g10) (g11) (g12) (g13) (g14) (g15) (g16) (g17) (g18) (g19) (g20) (g21) (g22) (g23) (g24) (g25) (g26) (g27) (g28) q_q H.size o21 eo21) (cwV 0 hts gfX12_ask_1 rfl rfl rfl (by decide +kernel) ⟨(Nat.le_of_ble_eq_true rfl), (Nat.le_of_ble_eq_true rfl)⟩) (PV (hP.sub (ws' := ((a0, .inr (9, [.int 0, .int m_t.2.1, .int m_t.2.2, .ref a1, g6, g7, g8, g9, g10, g11, g12, g13, g14, g15, g16, g17, g18, g19, g20, g21, g22, g23, g24, g25, .int m_k.1, .int m_k.2.1, .int m_k.2.2, g26, g27, g28])) :: bX11 a1 uq kq q_q [])) [0, 1, 2, 3, 4, 5, 6, 7, 8, 9, 10, 11, 12, 13, 14, 15] rfl) (hK.sub (tys' := (tX11 kq ([]))) [0, 1, 2, 3, 4, 5, 6, 7, 8, 9, 10, 11, 12, 13] rfl) (hD.sub (ws' := ((a0, .inr (9, [.int 0, .int m_t.2.1, .int m_t.2.2, .ref a1, g6, g7, g8, g9, g10, g11, g12, g13, g14, g15, g16, g17, g18, g19, g20, g21, g22, g23, g24, g25, .int m_k.1, .int m_k.2.1, .int m_k.2.2, g26, g27, g28])) :: bX11 a1 uq kq q_q [])) [0, 1, 2, 3, 4, 5, 6, 7, 8, 9, 10, 11, 12, 13, 14, 15] (by decide) rfl) hN 0 rfl rfl) rfl rfl hl.1 rfl (lv_room (Nat.le_of_ble_eq_true rfl)) dX12_ask_21 ⟨(Nat.le_of_ble_eq_true rfl), (Nat.le_of_ble_eq_true rfl)⟩) hP hD hK hS hA [0, 1, 2, 3, 4, 5, 6, 7, 8, 9, 10, 11, 12, 13, 14, 15] [] rfl rfl (by decide) (by decide) (fun r21 _ H locs hw hP hD _ hS => ?_)
    obtain rfl := hw
    have hP : va_P (dC, dI) vwCl ((a0, .inr (9, [.int 0, .int m_t.2.1, .int m_t.2.2, .ref a1, g6, g7, g8, g9, g10, g11, g12, g13, g14, g15, g16, g17, g18, g19, g20, g21, g22, g23, g24, g25, .int o21.2.1, .int o21.2.2.1, .int o21.2.2.2, g26, g27, g28])) :: bX11 a1 uq kq q_q []) H := hP
    have hD : va_D A ((a0, .inr (9, [.int 0, .int m_t.2.1, .int m_t.2.2, .ref a1, g6, g7, g8, g9, g10, g11, g12, g13, g14, g15, g16, g17, g18, g19, g20, g21, g22, g23, g24, g25, .int o21.2.1, .int o21.2.2.1, .int o21.2.2.2, g26, g27, g28])) :: bX11 a1 uq kq q_q []) := hD
    refine lv_istore_n (lv' := [(2, .int o21.1), (1, .int o6), (0, .ref a0)]) hx hb dX12_ask_24 rfl hl (by decide) rfl (fun ls hl => ?_)
    refine lv_aload_n hx hb dX12_ask_25 rfl (lv_at hl 2 rfl) ?_
    refine lv_iload_n hx hb dX12_ask_26 rfl (lv_at hl 0 rfl) ?_
    refine lv_bipush (v := (-2)) hx hb dX12_ask_27 (by decide) ?_
    have J42 : ∀ (v42_t1 : Int32) (H : Heap) (locs : List Loc) (ls : Array Slot), f_X12_ask_J42 m_t o21 v42_t1 = some out → va_P (dC, dI) vwCl ((a0, .inr (9, [.int 0, .int m_t.2.1, .int m_t.2.2, .ref a1, g6, g7, g8, g9, g10, g11, g12, g13, g14, g15, g16, g17, g18, g19, g20, g21, g22, g23, g24, g25, .int o21.2.1, .int o21.2.2.1, .int o21.2.2.2, g26, g27, g28])) :: bX11 a1 uq kq q_q []) H → va_D A ((a0, .inr (9, [.int 0, .int m_t.2.1, .int m_t.2.2, .ref a1, g6, g7, g8, g9, g10, g11, g12, g13, g14, g15, g16, g17, g18, g19, g20, g21, g22, g23, g24, g25, .int o21.2.1, .int o21.2.2.1, .int o21.2.2.2, g26, g27, g28])) :: bX11 a1 uq kq q_q []) → va_S A s.heap H locs → lv_has ls 3 [] → W p l e (headSpec vfX12_ask { frames := 6, cells := 0, slots := 0, locals := 139 }).room s m ([.ref a0]).toArray below meth c H locs 0 0 QQ (F0 m 42 ls [.int v42_t1, .ref a0]) := by
      intro v42_t1 H locs ls h  hP hD hS hl
      rw [f_X12_ask_J42] at h
      obtain ⟨o42, eo42⟩ : ∃ o, o = f_X12_good v42_t1 ((0 : Int32), m_t.2) := ⟨_, rfl⟩
      have h := nm_of h o42 eo42
      refine cl_i (wc := ([(a0, .inr (9, [.int 0, .int m_t.2.1, .int m_t.2.2, .ref a1, g6, g7, g8, g9, g10, g11, g12, g13, g14, g15, g16, g17, g18, g19, g20, g21, g22, g23, g24, g25, .int o21.2.1, .int o21.2.2.1, .int o21.2.2.2, g26, g27, g28]))])) (wr := (bX11 a1 uq kq q_q [])) (va_runV (As := [.int v42_t1]) (rest := []) ⟨hx, hb, hml, hown, hts⟩ (kfX12_good l dC dI a0 v42_t1 ((0 : Int32), m_t.2) (.ref a1) (g6) (g7) (g8) (g9) (g10) (g11) (g12) (g13) (g14) (g15) (g16) (g17) (g18) (g19) (g20) (g21) (g22) (g23) (g24) (g25) (.int o21.2.1) (.int o21.2.2.1) (.int o21.2.2.2) (g26) (g27) (g28) H.size o42 eo42.symm) (cwV 1 hts gfX12_ask_2 rfl rfl rfl (by decide +kernel) ⟨(Nat.le_of_ble_eq_true rfl), (Nat.le_of_ble_eq_true rfl)⟩) (PV (hP.sub (ws' := ([(a0, .inr (9, [.int 0, .int m_t.2.1, .int m_t.2.2, .ref a1, g6, g7, g8, g9, g10, g11, g12, g13, g14, g15, g16, g17, g18, g19, g20, g21, g22, g23, g24, g25, .int o21.2.1, .int o21.2.2.1, .int o21.2.2.2, g26, g27, g28]))])) [0] rfl) (hK.sub (tys' := ([])) [] rfl) (hD.sub (ws' := ([(a0, .inr (9, [.int 0, .int m_t.2.1, .int m_t.2.2, .ref a1, g6, g7, g8, g9, g10, g11, g12, g13, g14, g15, g16, g17, g18, g19, g20, g21, g22, g23, g24, g25, .int o21.2.1, .int o21.2.2.1, .int o21.2.2.2, g26, g27, g28]))])) [0] (by decide) rfl) hN 0 rfl rfl) rfl rfl hl.1 rfl (lv_room (Nat.le_of_ble_eq_true rfl)) dX12_ask_42 ⟨(Nat.le_of_ble_eq_true rfl), (Nat.le_of_ble_eq_true rfl)⟩) hP hD hK hS hA [0] [1, 2, 3, 4, 5, 6, 7, 8, 9, 10, 11, 12, 13, 14, 15] rfl rfl (by decide) (by decide) (fun r42 _ H locs hw hP hD _ hS => ?_)
      obtain rfl := hw
      have hP : va_P (dC, dI) vwCl (bX11 a1 uq kq q_q ([(a0, .inr (9, [.int o42.2.1, .int o42.2.2.1, .int o42.2.2.2, .ref a1, g6, g7, g8, g9, g10, g11, g12, g13, g14, g15, g16, g17, g18, g19, g20, g21, g22, g23, g24, g25, .int o21.2.1, .int o21.2.2.1, .int o21.2.2.2, g26, g27, g28]))])) H := hP
      have hD : va_D A (bX11 a1 uq kq q_q ([(a0, .inr (9, [.int o42.2.1, .int o42.2.2.1, .int o42.2.2.2, .ref a1, g6, g7, g8, g9, g10, g11, g12, g13, g14, g15, g16, g17, g18, g19, g20, g21, g22, g23, g24, g25, .int o21.2.1, .int o21.2.2.1, .int o21.2.2.2, g26, g27, g28]))])) := hD
      obtain rfl := Option.some.inj h
      have hP9 := hP.sub (ws' := ((a0, .inr (9, [.int o42.2.1, .int o42.2.2.1, .int o42.2.2.2, .ref a1, g6, g7, g8, g9, g10, g11, g12, g13, g14, g15, g16, g17, g18, g19, g20, g21, g22, g23, g24, g25, .int o21.2.1, .int o21.2.2.1, .int o21.2.2.2, g26, g27, g28])) :: bX11 a1 uq kq q_q [])) [15, 0, 1, 2, 3, 4, 5, 6, 7, 8, 9, 10, 11, 12, 13, 14] rfl
      have hD9 := hD.sub (ws' := ((a0, .inr (9, [.int o42.2.1, .int o42.2.2.1, .int o42.2.2.2, .ref a1, g6, g7, g8, g9, g10, g11, g12, g13, g14, g15, g16, g17, g18, g19, g20, g21, g22, g23, g24, g25, .int o21.2.1, .int o21.2.2.1, .int o21.2.2.2, g26, g27, g28])) :: bX11 a1 uq kq q_q [])) [15, 0, 1, 2, 3, 4, 5, 6, 7, 8, 9, 10, 11, 12, 13, 14] (by decide) rfl
      have hK9 := hK.sub (tys' := []) [] rfl
      rw [hQQ]
      exact W.iret (v := o42.1) hx hb hr (fun t ht hW => ⟨⟨o42.1, (), rfl, rfl, by rw [ht]; exact hP9, va_K.moved hW.alike hK9, hD9⟩, hS.F ht⟩) hS.2.2 dX12_ask_45
    refine lv_icmp_ne (tgt := 37) hx hb dX12_ask_29 (by decide) (fun c29 => ?_) (fun c29 => ?_)
    · have h := (if_neg c29).symm.trans h
      refine lv_aload_n hx hb dX12_ask_37 rfl (lv_at hl 2 rfl) ?_
      refine lv_iload_n hx hb dX12_ask_38 rfl (lv_at hl 0 rfl) ?_
      obtain ⟨o39, eo39, h⟩ := bd_of h
      refine cl_i (wc := ((a0, .inr (9, [.int 0, .int m_t.2.1, .int m_t.2.2, .ref a1, g6, g7, g8, g9, g10, g11, g12, g13, g14, g15, g16, g17, g18, g19, g20, g21, g22, g23, g24, g25, .int o21.2.1, .int o21.2.2.1, .int o21.2.2.2, g26, g27, g28])) :: bX11 a1 uq kq q_q [])) (wr := []) (va_runV (As := [.int o21.1]) (rest := [.ref a0]) ⟨hx, hb, hml, hown, hts⟩ (kfX12_codeOf l dC dI a0 o21.1 a1 uq kq (.int 0) (.int m_t.2.1) (.int m_t.2.2) (g6) (g7) (g8) (g9) (g10) (g11) (g12) (g13) (g14) (g15) (g16) (g17) (g18) (g19) (g20) (g21) (g22) (g23) (g24) (g25) (.int o21.2.1) (.int o21.2.2.1) (.int o21.2.2.2) (g26) (g27) (g28) q_q H.size o39 eo39) (cwV 1 hts gfX12_ask_3 rfl rfl rfl (by decide +kernel) ⟨(Nat.le_of_ble_eq_true rfl), (Nat.le_of_ble_eq_true rfl)⟩) (PV (hP.sub (ws' := ((a0, .inr (9, [.int 0, .int m_t.2.1, .int m_t.2.2, .ref a1, g6, g7, g8, g9, g10, g11, g12, g13, g14, g15, g16, g17, g18, g19, g20, g21, g22, g23, g24, g25, .int o21.2.1, .int o21.2.2.1, .int o21.2.2.2, g26, g27, g28])) :: bX11 a1 uq kq q_q [])) [0, 1, 2, 3, 4, 5, 6, 7, 8, 9, 10, 11, 12, 13, 14, 15] rfl) (hK.sub (tys' := (tX11 kq ([]))) [0, 1, 2, 3, 4, 5, 6, 7, 8, 9, 10, 11, 12, 13] rfl) (hD.sub (ws' := ((a0, .inr (9, [.int 0, .int m_t.2.1, .int m_t.2.2, .ref a1, g6, g7, g8, g9, g10, g11, g12, g13, g14, g15, g16, g17, g18, g19, g20, g21, g22, g23, g24, g25, .int o21.2.1, .int o21.2.2.1, .int o21.2.2.2, g26, g27, g28])) :: bX11 a1 uq kq q_q [])) [0, 1, 2, 3, 4, 5, 6, 7, 8, 9, 10, 11, 12, 13, 14, 15] (by decide) rfl) hN 0 rfl rfl) rfl rfl hl.1 rfl (lv_room (Nat.le_of_ble_eq_true rfl)) dX12_ask_39 ⟨(Nat.le_of_ble_eq_true rfl), (Nat.le_of_ble_eq_true rfl)⟩) hP hD hK hS hA [0, 1, 2, 3, 4, 5, 6, 7, 8, 9, 10, 11, 12, 13, 14, 15] [] rfl rfl (by decide) (by decide) (fun r39 _ H locs hw hP hD _ hS => ?_)
      obtain rfl := hw.symm
      have hP : va_P (dC, dI) vwCl ((a0, .inr (9, [.int 0, .int m_t.2.1, .int m_t.2.2, .ref a1, g6, g7, g8, g9, g10, g11, g12, g13, g14, g15, g16, g17, g18, g19, g20, g21, g22, g23, g24, g25, .int o21.2.1, .int o21.2.2.1, .int o21.2.2.2, g26, g27, g28])) :: bX11 a1 uq kq q_q []) H := hP
      have hD : va_D A ((a0, .inr (9, [.int 0, .int m_t.2.1, .int m_t.2.2, .ref a1, g6, g7, g8, g9, g10, g11, g12, g13, g14, g15, g16, g17, g18, g19, g20, g21, g22, g23, g24, g25, .int o21.2.1, .int o21.2.2.1, .int o21.2.2.2, g26, g27, g28])) :: bX11 a1 uq kq q_q []) := hD
      exact J42 o39 H _ ls h  hP hD hS (lv_sub hl [] rfl)
    · have h := (if_pos c29).symm.trans h
      refine lv_bipush (v := (-2)) hx hb dX12_ask_32 (by decide) ?_
      refine lv_goto (tgt := 42) hx hb dX12_ask_34 (by decide) ?_
      exact J42 (-2 : Int32) H _ ls h  hP hD hS (lv_sub hl [] rfl)
  · have h := (if_neg c11).symm.trans h
    refine lv_aload_n hx hb dX12_ask_14 rfl (lv_at hl 1 rfl) ?_
    refine lv_iload_n hx hb dX12_ask_15 rfl (lv_at hl 0 rfl) ?_
    obtain ⟨o16, eo16⟩ : ∃ o, o = f_X12_refused o6 ((0 : Int32), m_t.2) := ⟨_, rfl⟩
    have h := nm_of h o16 eo16
    refine cl_i (wc := ([(a0, .inr (9, [.int 0, .int m_t.2.1, .int m_t.2.2, .ref a1, g6, g7, g8, g9, g10, g11, g12, g13, g14, g15, g16, g17, g18, g19, g20, g21, g22, g23, g24, g25, .int m_k.1, .int m_k.2.1, .int m_k.2.2, g26, g27, g28]))])) (wr := (bX11 a1 uq kq q_q [])) (va_runV (As := [.int o6]) (rest := []) ⟨hx, hb, hml, hown, hts⟩ (kfX12_refused l dC dI a0 o6 ((0 : Int32), m_t.2) (.ref a1) (g6) (g7) (g8) (g9) (g10) (g11) (g12) (g13) (g14) (g15) (g16) (g17) (g18) (g19) (g20) (g21) (g22) (g23) (g24) (g25) (.int m_k.1) (.int m_k.2.1) (.int m_k.2.2) (g26) (g27) (g28) H.size o16 eo16.symm) (cwV 1 hts gfX12_ask_4 rfl rfl rfl (by decide +kernel) ⟨(Nat.le_of_ble_eq_true rfl), (Nat.le_of_ble_eq_true rfl)⟩) (PV (hP.sub (ws' := ([(a0, .inr (9, [.int 0, .int m_t.2.1, .int m_t.2.2, .ref a1, g6, g7, g8, g9, g10, g11, g12, g13, g14, g15, g16, g17, g18, g19, g20, g21, g22, g23, g24, g25, .int m_k.1, .int m_k.2.1, .int m_k.2.2, g26, g27, g28]))])) [0] rfl) (hK.sub (tys' := ([])) [] rfl) (hD.sub (ws' := ([(a0, .inr (9, [.int 0, .int m_t.2.1, .int m_t.2.2, .ref a1, g6, g7, g8, g9, g10, g11, g12, g13, g14, g15, g16, g17, g18, g19, g20, g21, g22, g23, g24, g25, .int m_k.1, .int m_k.2.1, .int m_k.2.2, g26, g27, g28]))])) [0] (by decide) rfl) hN 0 rfl rfl) rfl rfl hl.1 rfl (lv_room (Nat.le_of_ble_eq_true rfl)) dX12_ask_16 ⟨(Nat.le_of_ble_eq_true rfl), (Nat.le_of_ble_eq_true rfl)⟩) hP hD hK hS hA [0] [1, 2, 3, 4, 5, 6, 7, 8, 9, 10, 11, 12, 13, 14, 15] rfl rfl (by decide) (by decide) (fun r16 _ H locs hw hP hD _ hS => ?_)
    obtain rfl := hw
    have hP : va_P (dC, dI) vwCl (bX11 a1 uq kq q_q ([(a0, .inr (9, [.int o16.1, .int o16.2.1, .int o16.2.2, .ref a1, g6, g7, g8, g9, g10, g11, g12, g13, g14, g15, g16, g17, g18, g19, g20, g21, g22, g23, g24, g25, .int m_k.1, .int m_k.2.1, .int m_k.2.2, g26, g27, g28]))])) H := hP
    have hD : va_D A (bX11 a1 uq kq q_q ([(a0, .inr (9, [.int o16.1, .int o16.2.1, .int o16.2.2, .ref a1, g6, g7, g8, g9, g10, g11, g12, g13, g14, g15, g16, g17, g18, g19, g20, g21, g22, g23, g24, g25, .int m_k.1, .int m_k.2.1, .int m_k.2.2, g26, g27, g28]))])) := hD
    obtain rfl := Option.some.inj h
    have hP9 := hP.sub (ws' := ((a0, .inr (9, [.int o16.1, .int o16.2.1, .int o16.2.2, .ref a1, g6, g7, g8, g9, g10, g11, g12, g13, g14, g15, g16, g17, g18, g19, g20, g21, g22, g23, g24, g25, .int m_k.1, .int m_k.2.1, .int m_k.2.2, g26, g27, g28])) :: bX11 a1 uq kq q_q [])) [15, 0, 1, 2, 3, 4, 5, 6, 7, 8, 9, 10, 11, 12, 13, 14] rfl
    have hD9 := hD.sub (ws' := ((a0, .inr (9, [.int o16.1, .int o16.2.1, .int o16.2.2, .ref a1, g6, g7, g8, g9, g10, g11, g12, g13, g14, g15, g16, g17, g18, g19, g20, g21, g22, g23, g24, g25, .int m_k.1, .int m_k.2.1, .int m_k.2.2, g26, g27, g28])) :: bX11 a1 uq kq q_q [])) [15, 0, 1, 2, 3, 4, 5, 6, 7, 8, 9, 10, 11, 12, 13, 14] (by decide) rfl
    have hK9 := hK.sub (tys' := []) [] rfl
    rw [hQQ]
    exact W.iret (v := (-1 : Int32)) hx hb hr (fun t ht hW => ⟨⟨(-1 : Int32), (), rfl, rfl, by rw [ht]; exact hP9, va_K.moved hW.alike hK9, hD9⟩, hS.F ht⟩) hS.2.2 dX12_ask_19
theorem dX12_askLeaves_0 : decode cX12_askLeaves 0 = .ok (.aload_n 0, 1) := by decide +kernel
theorem dX12_askLeaves_1 : decode cX12_askLeaves 1 = .ok (.iconst 0, 1) := by decide +kernel
theorem dX12_askLeaves_10 : decode cX12_askLeaves 10 = .ok (.iload_n 1, 1) := by decide +kernel
theorem dX12_askLeaves_11 : decode cX12_askLeaves 11 = .ok (.ifCond .le 9, 3) := by decide +kernel
theorem dX12_askLeaves_14 : decode cX12_askLeaves 14 = .ok (.aload_n 0, 1) := by decide +kernel
theorem dX12_askLeaves_15 : decode cX12_askLeaves 15 = .ok (.iload_n 1, 1) := by decide +kernel
theorem dX12_askLeaves_16 : decode cX12_askLeaves 16 = .ok (.invokevirtual 42, 3) := by decide +kernel
theorem dX12_askLeaves_19 : decode cX12_askLeaves 19 = .ok (.ireturn, 1) := by decide +kernel
theorem dX12_askLeaves_2 : decode cX12_askLeaves 2 = .ok (.putfield 36, 3) := by decide +kernel
theorem dX12_askLeaves_20 : decode cX12_askLeaves 20 = .ok (.aload_n 0, 1) := by decide +kernel
theorem dX12_askLeaves_21 : decode cX12_askLeaves 21 = .ok (.invokevirtual 433, 3) := by decide +kernel
theorem dX12_askLeaves_24 : decode cX12_askLeaves 24 = .ok (.pop, 1) := by decide +kernel
theorem dX12_askLeaves_25 : decode cX12_askLeaves 25 = .ok (.aload_n 0, 1) := by decide +kernel
theorem dX12_askLeaves_26 : decode cX12_askLeaves 26 = .ok (.aload_n 0, 1) := by decide +kernel
theorem dX12_askLeaves_27 : decode cX12_askLeaves 27 = .ok (.getfield 427, 3) := by decide +kernel
theorem dX12_askLeaves_30 : decode cX12_askLeaves 30 = .ok (.invokevirtual 46, 3) := by decide +kernel
theorem dX12_askLeaves_33 : decode cX12_askLeaves 33 = .ok (.ireturn, 1) := by decide +kernel
theorem dX12_askLeaves_5 : decode cX12_askLeaves 5 = .ok (.aload_n 0, 1) := by decide +kernel
theorem dX12_askLeaves_6 : decode cX12_askLeaves 6 = .ok (.invokevirtual 417, 3) := by decide +kernel
theorem dX12_askLeaves_9 : decode cX12_askLeaves 9 = .ok (.istore_n 1, 1) := by decide +kernel
def vfX12_askLeaves : List Cond := List.cons (.code yX12_askLeaves cX12_askLeaves 2 (some .int)) (apW [.fieldLink RX12 36 "HookPierModel" "thrown" "I", .methodLink RX12 417 yX12_refusesDark, .instanceMethod yX12_refusesDark, .selects RX12 yX12_refusesDark yX12_refusesDark, .initialized RX12, .methodLink RX12 433 yX12_toAsk, .instanceMethod yX12_toAsk, .selects RX12 yX12_toAsk yX12_toAsk, .fieldLink RX12 427 "HookPierModel" "askLeft" "I", .methodLink RX12 46 yX12_good, .instanceMethod yX12_good, .selects RX12 yX12_good yX12_good, .methodLink RX12 42 yX12_refused, .instanceMethod yX12_refused, .selects RX12 yX12_refused yX12_refused] (apW wsX120 (apW vfX12_refusesDark (apW vfX12_toAsk (apW vfX12_good (vfX12_refused))))))
theorem ifX12_askLeaves_X12 : ∀ w ∈ wsX120, w ∈ vfX12_askLeaves := fun _ h => (List.mem_cons_of_mem _ (List.mem_append_right _ (List.mem_append_left _ h)))
theorem qfX12_askLeaves : Good vfX12_askLeaves := gd_cons (by decide +kernel) (gd_app (gd_dec (by decide +kernel) : Good [.fieldLink RX12 36 "HookPierModel" "thrown" "I", .methodLink RX12 417 yX12_refusesDark, .instanceMethod yX12_refusesDark, .selects RX12 yX12_refusesDark yX12_refusesDark, .initialized RX12, .methodLink RX12 433 yX12_toAsk, .instanceMethod yX12_toAsk, .selects RX12 yX12_toAsk yX12_toAsk, .fieldLink RX12 427 "HookPierModel" "askLeft" "I", .methodLink RX12 46 yX12_good, .instanceMethod yX12_good, .selects RX12 yX12_good yX12_good, .methodLink RX12 42 yX12_refused, .instanceMethod yX12_refused, .selects RX12 yX12_refused yX12_refused]) (gd_app qsX12 (gd_app qfX12_refusesDark (gd_app qfX12_toAsk (gd_app qfX12_good qfX12_refused)))))
theorem gfX12_askLeaves_0 : GoodIn vfX12_askLeaves (wsV RX12 417 RX12 yX12_refusesDark vfX12_refusesDark) := goodIn_app (goodIn_r [.methodLink RX12 417 yX12_refusesDark, .instanceMethod yX12_refusesDark, .selects RX12 yX12_refusesDark yX12_refusesDark, .initialized RX12] [2, 3, 4, 5] rfl (by decide +kernel)) (goodIn_m (fun _ h => (List.mem_cons_of_mem _ (List.mem_append_right _ (List.mem_append_right _ (List.mem_append_left _ h))))) qfX12_refusesDark)
theorem gfX12_askLeaves_1 : GoodIn vfX12_askLeaves (wsV RX12 433 RX12 yX12_toAsk vfX12_toAsk) := goodIn_app (goodIn_r [.methodLink RX12 433 yX12_toAsk, .instanceMethod yX12_toAsk, .selects RX12 yX12_toAsk yX12_toAsk, .initialized RX12] [6, 7, 8, 5] rfl (by decide +kernel)) (goodIn_m (fun _ h => (List.mem_cons_of_mem _ (List.mem_append_right _ (List.mem_append_right _ (List.mem_append_right _ (List.mem_append_left _ h)))))) qfX12_toAsk)
theorem gfX12_askLeaves_2 : GoodIn vfX12_askLeaves (wsV RX12 46 RX12 yX12_good vfX12_good) := goodIn_app (goodIn_r [.methodLink RX12 46 yX12_good, .instanceMethod yX12_good, .selects RX12 yX12_good yX12_good, .initialized RX12] [10, 11, 12, 5] rfl (by decide +kernel)) (goodIn_m (fun _ h => (List.mem_cons_of_mem _ (List.mem_append_right _ (List.mem_append_right _ (List.mem_append_right _ (List.mem_append_right _ (List.mem_append_left _ h))))))) qfX12_good)
theorem gfX12_askLeaves_3 : GoodIn vfX12_askLeaves (wsV RX12 42 RX12 yX12_refused vfX12_refused) := goodIn_app (goodIn_r [.methodLink RX12 42 yX12_refused, .instanceMethod yX12_refused, .selects RX12 yX12_refused yX12_refused, .initialized RX12] [13, 14, 15, 5] rfl (by decide +kernel)) (goodIn_m (fun _ h => (List.mem_cons_of_mem _ (List.mem_append_right _ (List.mem_append_right _ (List.mem_append_right _ (List.mem_append_right _ (List.mem_append_right _ h))))))) qfX12_refused)
set_option maxHeartbeats 2000000 in
set_option maxRecDepth 100000 in
theorem kfX12_askLeaves (l : Launch) (dC : Nat → ClassId) (dI : Nat → Nat → Nat) (a0 : Nat) (a1 : Nat) (uq : Nat → Nat) (kq : Nat → ClassId) (m_t : TX12_t) (m_k : TX12_k) (g6 : Value) (g7 : Value) (g8 : Value) (g9 : Value) (g10 : Value) (g11 : Value) (g12 : Value) (g13 : Value) (g14 : Value) (g15 : Value) (g16 : Value) (g17 : Value) (g18 : Value) (g19 : Value) (g20 : Value) (g21 : Value) (g22 : Value) (g23 : Value) (g24 : Value) (g25 : Value) (g26 : Value) (g27 : Value) (g28 : Value) (q_q : TX11_q) (sz : Nat) (out : (Int32 × TX12_t × TX12_k)) (h : f_X12_askLeaves m_t m_k q_q = some out) : Met l yX12_askLeaves vfX12_askLeaves ({ frames := 6, cells := 0, slots := 0, locals := 139 }) (PC (dC, dI) [.ref a0] sz ((a0, .inr (9, [.int m_t.1, .int m_t.2.1, .int m_t.2.2, .ref a1, g6, g7, g8, g9, g10, g11, g12, g13, g14, g15, g16, g17, g18, g19, g20, g21, g22, g23, g24, g25, .int m_k.1, .int m_k.2.1, .int m_k.2.2, g26, g27, g28])) :: bX11 a1 uq kq q_q []) (tX11 kq ([]))) (va_Qi (S := Unit) (fun (r : Int32) _ => r = out.1) (fun _ t => BC (dC, dI) (va_A ((a0, .inr (9, [.int m_t.1, .int m_t.2.1, .int m_t.2.2, .ref a1, g6, g7, g8, g9, g10, g11, g12, g13, g14, g15, g16, g17, g18, g19, g20, g21, g22, g23, g24, g25, .int m_k.1, .int m_k.2.1, .int m_k.2.2, g26, g27, g28])) :: bX11 a1 uq kq q_q []) sz) ((a0, .inr (9, [.int out.2.1.1, .int out.2.1.2.1, .int out.2.1.2.2, .ref a1, g6, g7, g8, g9, g10, g11, g12, g13, g14, g15, g16, g17, g18, g19, g20, g21, g22, g23, g24, g25, .int out.2.2.1, .int out.2.2.2.1, .int out.2.2.2.2, g26, g27, g28])) :: bX11 a1 uq kq q_q []) [] t) (va_A ((a0, .inr (9, [.int m_t.1, .int m_t.2.1, .int m_t.2.2, .ref a1, g6, g7, g8, g9, g10, g11, g12, g13, g14, g15, g16, g17, g18, g19, g20, g21, g22, g23, g24, g25, .int m_k.1, .int m_k.2.1, .int m_k.2.2, g26, g27, g28])) :: bX11 a1 uq kq q_q []) sz)) 0 0 (va_A ((a0, .inr (9, [.int m_t.1, .int m_t.2.1, .int m_t.2.2, .ref a1, g6, g7, g8, g9, g10, g11, g12, g13, g14, g15, g16, g17, g18, g19, g20, g21, g22, g23, g24, g25, .int m_k.1, .int m_k.2.1, .int m_k.2.2, g26, g27, g28])) :: bX11 a1 uq kq q_q []) sz) := by
  refine Met.ofW (cc := cX12_askLeaves) (maxL := 2) (ret := (some .int)) (by decide) rfl ?_
  intro p e s m args below meth c s₁ B0 hml hv
  obtain ⟨rfl, hsz, hP, hK, hD0, hN⟩ := hv
  have hx := B0.exec
  have hb := B0.bytes
  have hr := B0.returns
  have hts := atoms_spec (ws := vfX12_askLeaves) B0.pre
  have hown : s.vm.findClass RX12 = some m.cls := findClass_of_methodNamed B0.named
  have hlocks := B0.notSynchronized
  subst hsz
  have hD := hD0.self (sz := s.heap.size)
  generalize hAe : va_A ((a0, .inr (9, [.int m_t.1, .int m_t.2.1, .int m_t.2.2, .ref a1, g6, g7, g8, g9, g10, g11, g12, g13, g14, g15, g16, g17, g18, g19, g20, g21, g22, g23, g24, g25, .int m_k.1, .int m_k.2.1, .int m_k.2.2, g26, g27, g28])) :: bX11 a1 uq kq q_q []) s.heap.size = A at hD ⊢
  have hA : ∀ q : Nat, s.heap.size ≤ q → A q := fun q h => by rw [← hAe]; exact Or.inr h
  have hS : va_S A s.heap s.heap [] := va_S.rf
  have hP : va_P (dC, dI) vwCl ((a0, .inr (9, [.int m_t.1, .int m_t.2.1, .int m_t.2.2, .ref a1, g6, g7, g8, g9, g10, g11, g12, g13, g14, g15, g16, g17, g18, g19, g20, g21, g22, g23, g24, g25, .int m_k.1, .int m_k.2.1, .int m_k.2.2, g26, g27, g28])) :: bX11 a1 uq kq q_q []) s.heap := hP
  have hl := lv_entry ([.ref a0]) (n := 2) (Nat.le_of_ble_eq_true rfl)
  rw [lg_entry_eq]
  generalize (lg_sl ([.ref a0]) ++ List.replicate (2 - (lg_sl ([.ref a0])).length) Slot.unset).toArray = ls at hl ⊢
  have hl : lv_has ls 2 [(0, .ref a0)] := hl
  refine W_q (fun QQ hQQ => ?_)
  rw [f_X12_askLeaves] at h
  refine lv_aload_n hx hb dX12_askLeaves_0 rfl (lv_at hl 0 rfl) ?_
  refine lv_iconst (v := 0) hx hb dX12_askLeaves_1 (by decide) ?_
  refine va_put (D := (dC, dI)) (ci := 9) (v := .int 0) (ty := .int) (C := RX12) (T := TX12) (N := 30) hx hb hts ifX12_askLeaves_X12 tyX12 tyX12_ok nmX12 hown hK hP hD hS 0 rfl rfl 0 (by decide) (hts (.fieldLink RX12 36 "HookPierModel" "thrown" "I") (List.mem_of_getElem? (i := 1) rfl)) (fun _ h9 => h9) rfl (by decide +kernel) rfl rfl (Nat.le_of_ble_eq_true rfl) dX12_askLeaves_2 (fun H locs hP hD hS => ?_)
  have hP : va_P (dC, dI) vwCl ((a0, .inr (9, [.int 0, .int m_t.2.1, .int m_t.2.2, .ref a1, g6, g7, g8, g9, g10, g11, g12, g13, g14, g15, g16, g17, g18, g19, g20, g21, g22, g23, g24, g25, .int m_k.1, .int m_k.2.1, .int m_k.2.2, g26, g27, g28])) :: bX11 a1 uq kq q_q []) H := hP
  have hD : va_D A ((a0, .inr (9, [.int 0, .int m_t.2.1, .int m_t.2.2, .ref a1, g6, g7, g8, g9, g10, g11, g12, g13, g14, g15, g16, g17, g18, g19, g20, g21, g22, g23, g24, g25, .int m_k.1, .int m_k.2.1, .int m_k.2.2, g26, g27, g28])) :: bX11 a1 uq kq q_q []) := hD
  refine lv_aload_n hx hb dX12_askLeaves_5 rfl (lv_at hl 0 rfl) ?_
  obtain ⟨o6, eo6⟩ : ∃ o, o = f_X12_refusesDark q_q := ⟨_, rfl⟩
  have h := nm_of h o6 eo6
  refine cl_i (wc := ((a0, .inr (9, [.int 0, .int m_t.2.1, .int m_t.2.2, .ref a1, g6, g7, g8, g9, g10, g11, g12, g13, g14, g15, g16, g17, g18, g19, g20, g21, g22, g23, g24, g25, .int m_k.1, .int m_k.2.1, .int m_k.2.2, g26, g27, g28])) :: bX11 a1 uq kq q_q [])) (wr := []) (va_runV (As := []) (rest := []) ⟨hx, hb, hml, hown, hts⟩ (kfX12_refusesDark l dC dI a0 a1 uq kq (.int 0) (.int m_t.2.1) (.int m_t.2.2) (g6) (g7) (g8) (g9) (g10) (g11) (g12) (g13) (g14) (g15) (g16) (g17) (g18) (g19) (g20) (g21) (g22) (g23) (g24) (g25) (.int m_k.1) (.int m_k.2.1) (.int m_k.2.2) (g26) (g27) (g28) q_q H.size o6 eo6.symm) (cwV 0 hts gfX12_askLeaves_0 rfl rfl rfl (by decide +kernel) ⟨(Nat.le_of_ble_eq_true rfl), (Nat.le_of_ble_eq_true rfl)⟩) (PV (hP.sub (ws' := ((a0, .inr (9, [.int 0, .int m_t.2.1, .int m_t.2.2, .ref a1, g6, g7, g8, g9, g10, g11, g12, g13, g14, g15, g16, g17, g18, g19, g20, g21, g22, g23, g24, g25, .int m_k.1, .int m_k.2.1, .int m_k.2.2, g26, g27, g28])) :: bX11 a1 uq kq q_q [])) [0, 1, 2, 3, 4, 5, 6, 7, 8, 9, 10, 11, 12, 13, 14, 15] rfl) (hK.sub (tys' := (tX11 kq ([]))) [0, 1, 2, 3, 4, 5, 6, 7, 8, 9, 10, 11, 12, 13] rfl) (hD.sub (ws' := ((a0, .inr (9, [.int 0, .int m_t.2.1, .int m_t.2.2, .ref a1, g6, g7, g8, g9, g10, g11, g12, g13, g14, g15, g16, g17, g18, g19, g20, g21, g22, g23, g24, g25, .int m_k.1, .int m_k.2.1, .int m_k.2.2, g26, g27, g28])) :: bX11 a1 uq kq q_q [])) [0, 1, 2, 3, 4, 5, 6, 7, 8, 9, 10, 11, 12, 13, 14, 15] (by decide) rfl) hN 0 rfl rfl) rfl rfl hl.1 rfl (lv_room (Nat.le_of_ble_eq_true rfl)) dX12_askLeaves_6 ⟨(Nat.le_of_ble_eq_true rfl), (Nat.le_of_ble_eq_true rfl)⟩) hP hD hK hS hA [0, 1, 2, 3, 4, 5, 6, 7, 8, 9, 10, 11, 12, 13, 14, 15] [] rfl rfl (by decide) (by decide) (fun r6 _ H locs hw hP hD _ hS => ?_)
  obtain rfl := hw.symm
  have hP : va_P (dC, dI) vwCl ((a0, .inr (9, [.int 0, .int m_t.2.1, .int m_t.2.2, .ref a1, g6, g7, g8, g9, g10, g11, g12, g13, g14, g15, g16, g17, g18, g19, g20, g21, g22, g23, g24, g25, .int m_k.1, .int m_k.2.1, .int m_k.2.2, g26, g27, g28])) :: bX11 a1 uq kq q_q []) H := hP
  have hD : va_D A ((a0, .inr (9, [.int 0, .int m_t.2.1, .int m_t.2.2, .ref a1, g6, g7, g8, g9, g10, g11, g12, g13, g14, g15, g16, g17, g18, g19, g20, g21, g22, g23, g24, g25, .int m_k.1, .int m_k.2.1, .int m_k.2.2, g26, g27, g28])) :: bX11 a1 uq kq q_q []) := hD
  refine lv_istore_n (lv' := [(1, .int o6), (0, .ref a0)]) hx hb dX12_askLeaves_9 rfl hl (by decide) rfl (fun ls hl => ?_)
  refine lv_iload_n hx hb dX12_askLeaves_10 rfl (lv_at hl 0 rfl) ?_
  refine lv_if_le (tgt := 20) hx hb dX12_askLeaves_11 (by decide) (fun c11 => ?_) (fun c11 => ?_)
  · have h := (if_pos c11).symm.trans h
    refine lv_aload_n hx hb dX12_askLeaves_20 rfl (lv_at hl 1 rfl) ?_
    obtain ⟨o21, eo21, h⟩ := bd_of h
    refine cl_i (wc := ((a0, .inr (9, [.int 0, .int m_t.2.1, .int m_t.2.2, .ref a1, g6, g7, g8, g9, g10, g11, g12, g13, g14, g15, g16, g17, g18, g19, g20, g21, g22, g23, g24, g25, .int m_k.1, .int m_k.2.1, .int m_k.2.2, g26, g27, g28])) :: bX11 a1 uq kq q_q [])) (wr := []) (va_runV (As := []) (rest := []) ⟨hx, hb, hml, hown, hts⟩ (kfX12_toAsk l dC dI a0 a1 uq kq m_k (.int 0) (.int m_t.2.1) (.int m_t.2.2) (g6) (g7) (g8) (g9) (g10) (g11) (g12) (g13) (g14) (g15) (g16) (g17) (g18) (g19) (g20) (g21) (g22) (g23) (g24) (g25) (g26) (g27) (g28) q_q H.size o21 eo21) (cwV 0 hts gfX12_askLeaves_1 rfl rfl rfl (by decide +kernel) ⟨(Nat.le_of_ble_eq_true rfl), (Nat.le_of_ble_eq_true rfl)⟩) (PV (hP.sub (ws' := ((a0, .inr (9, [.int 0, .int m_t.2.1, .int m_t.2.2, .ref a1, g6, g7, g8, g9, g10, g11, g12, g13, g14, g15, g16, g17, g18, g19, g20, g21, g22, g23, g24, g25, .int m_k.1, .int m_k.2.1, .int m_k.2.2, g26, g27, g28])) :: bX11 a1 uq kq q_q [])) [0, 1, 2, 3, 4, 5, 6, 7, 8, 9, 10, 11, 12, 13, 14, 15] rfl) (hK.sub (tys' := (tX11 kq ([]))) [0, 1, 2, 3, 4, 5, 6, 7, 8, 9, 10, 11, 12, 13] rfl) (hD.sub (ws' := ((a0, .inr (9, [.int 0, .int m_t.2.1, .int m_t.2.2, .ref a1, g6, g7, g8, g9, g10, g11, g12, g13, g14, g15, g16, g17, g18, g19, g20, g21, g22, g23, g24, g25, .int m_k.1, .int m_k.2.1, .int m_k.2.2, g26, g27, g28])) :: bX11 a1 uq kq q_q [])) [0, 1, 2, 3, 4, 5, 6, 7, 8, 9, 10, 11, 12, 13, 14, 15] (by decide) rfl) hN 0 rfl rfl) rfl rfl hl.1 rfl (lv_room (Nat.le_of_ble_eq_true rfl)) dX12_askLeaves_21 ⟨(Nat.le_of_ble_eq_true rfl), (Nat.le_of_ble_eq_true rfl)⟩) hP hD hK hS hA [0, 1, 2, 3, 4, 5, 6, 7, 8, 9, 10, 11, 12, 13, 14, 15] [] rfl rfl (by decide) (by decide) (fun r21 _ H locs hw hP hD _ hS => ?_)
    obtain rfl := hw
    have hP : va_P (dC, dI) vwCl ((a0, .inr (9, [.int 0, .int m_t.2.1, .int m_t.2.2, .ref a1, g6, g7, g8, g9, g10, g11, g12, g13, g14, g15, g16, g17, g18, g19, g20, g21, g22, g23, g24, g25, .int o21.2.1, .int o21.2.2.1, .int o21.2.2.2, g26, g27, g28])) :: bX11 a1 uq kq q_q []) H := hP
    have hD : va_D A ((a0, .inr (9, [.int 0, .int m_t.2.1, .int m_t.2.2, .ref a1, g6, g7, g8, g9, g10, g11, g12, g13, g14, g15, g16, g17, g18, g19, g20, g21, g22, g23, g24, g25, .int o21.2.1, .int o21.2.2.1, .int o21.2.2.2, g26, g27, g28])) :: bX11 a1 uq kq q_q []) := hD
    refine lv_pop hx hb dX12_askLeaves_24 rfl ?_
    refine lv_aload_n hx hb dX12_askLeaves_25 rfl (lv_at hl 1 rfl) ?_
    refine lv_aload_n hx hb dX12_askLeaves_26 rfl (lv_at hl 1 rfl) ?_
    refine va_get (D := (dC, dI)) (ci := 9) (v := .int o21.2.1) (C := RX12) (T := TX12) (N := 30) hx hb hts ifX12_askLeaves_X12 hown hK hP 0 rfl rfl 24 (by decide) (hts (.fieldLink RX12 427 "HookPierModel" "askLeft" "I") (List.mem_of_getElem? (i := 9) rfl)) (fun _ h9 => h9) rfl dX12_askLeaves_27 ?_
    obtain ⟨o30, eo30⟩ : ∃ o, o = f_X12_good o21.2.1 ((0 : Int32), m_t.2) := ⟨_, rfl⟩
    have h := nm_of h o30 eo30
    refine cl_i (wc := ([(a0, .inr (9, [.int 0, .int m_t.2.1, .int m_t.2.2, .ref a1, g6, g7, g8, g9, g10, g11, g12, g13, g14, g15, g16, g17, g18, g19, g20, g21, g22, g23, g24, g25, .int o21.2.1, .int o21.2.2.1, .int o21.2.2.2, g26, g27, g28]))])) (wr := (bX11 a1 uq kq q_q [])) (va_runV (As := [.int o21.2.1]) (rest := []) ⟨hx, hb, hml, hown, hts⟩ (kfX12_good l dC dI a0 o21.2.1 ((0 : Int32), m_t.2) (.ref a1) (g6) (g7) (g8) (g9) (g10) (g11) (g12) (g13) (g14) (g15) (g16) (g17) (g18) (g19) (g20) (g21) (g22) (g23) (g24) (g25) (.int o21.2.1) (.int o21.2.2.1) (.int o21.2.2.2) (g26) (g27) (g28) H.size o30 eo30.symm) (cwV 1 hts gfX12_askLeaves_2 rfl rfl rfl (by decide +kernel) ⟨(Nat.le_of_ble_eq_true rfl), (Nat.le_of_ble_eq_true rfl)⟩) (PV (hP.sub (ws' := ([(a0, .inr (9, [.int 0, .int m_t.2.1, .int m_t.2.2, .ref a1, g6, g7, g8, g9, g10, g11, g12, g13, g14, g15, g16, g17, g18, g19, g20, g21, g22, g23, g24, g25, .int o21.2.1, .int o21.2.2.1, .int o21.2.2.2, g26, g27, g28]))])) [0] rfl) (hK.sub (tys' := ([])) [] rfl) (hD.sub (ws' := ([(a0, .inr (9, [.int 0, .int m_t.2.1, .int m_t.2.2, .ref a1, g6, g7, g8, g9, g10, g11, g12, g13, g14, g15, g16, g17, g18, g19, g20, g21, g22, g23, g24, g25, .int o21.2.1, .int o21.2.2.1, .int o21.2.2.2, g26, g27, g28]))])) [0] (by decide) rfl) hN 0 rfl rfl) rfl rfl hl.1 rfl (lv_room (Nat.le_of_ble_eq_true rfl)) dX12_askLeaves_30 ⟨(Nat.le_of_ble_eq_true rfl), (Nat.le_of_ble_eq_true rfl)⟩) hP hD hK hS hA [0] [1, 2, 3, 4, 5, 6, 7, 8, 9, 10, 11, 12, 13, 14, 15] rfl rfl (by decide) (by decide) (fun r30 _ H locs hw hP hD _ hS => ?_)
    obtain rfl := hw
    have hP : va_P (dC, dI) vwCl (bX11 a1 uq kq q_q ([(a0, .inr (9, [.int o30.2.1, .int o30.2.2.1, .int o30.2.2.2, .ref a1, g6, g7, g8, g9, g10, g11, g12, g13, g14, g15, g16, g17, g18, g19, g20, g21, g22, g23, g24, g25, .int o21.2.1, .int o21.2.2.1, .int o21.2.2.2, g26, g27, g28]))])) H := hP
    have hD : va_D A (bX11 a1 uq kq q_q ([(a0, .inr (9, [.int o30.2.1, .int o30.2.2.1, .int o30.2.2.2, .ref a1, g6, g7, g8, g9, g10, g11, g12, g13, g14, g15, g16, g17, g18, g19, g20, g21, g22, g23, g24, g25, .int o21.2.1, .int o21.2.2.1, .int o21.2.2.2, g26, g27, g28]))])) := hD
    obtain rfl := Option.some.inj h
    have hP9 := hP.sub (ws' := ((a0, .inr (9, [.int o30.2.1, .int o30.2.2.1, .int o30.2.2.2, .ref a1, g6, g7, g8, g9, g10, g11, g12, g13, g14, g15, g16, g17, g18, g19, g20, g21, g22, g23, g24, g25, .int o21.2.1, .int o21.2.2.1, .int o21.2.2.2, g26, g27, g28])) :: bX11 a1 uq kq q_q [])) [15, 0, 1, 2, 3, 4, 5, 6, 7, 8, 9, 10, 11, 12, 13, 14] rfl
    have hD9 := hD.sub (ws' := ((a0, .inr (9, [.int o30.2.1, .int o30.2.2.1, .int o30.2.2.2, .ref a1, g6, g7, g8, g9, g10, g11, g12, g13, g14, g15, g16, g17, g18, g19, g20, g21, g22, g23, g24, g25, .int o21.2.1, .int o21.2.2.1, .int o21.2.2.2, g26, g27, g28])) :: bX11 a1 uq kq q_q [])) [15, 0, 1, 2, 3, 4, 5, 6, 7, 8, 9, 10, 11, 12, 13, 14] (by decide) rfl
    have hK9 := hK.sub (tys' := []) [] rfl
    rw [hQQ]
    exact W.iret (v := o30.1) hx hb hr (fun t ht hW => ⟨⟨o30.1, (), rfl, rfl, by rw [ht]; exact hP9, va_K.moved hW.alike hK9, hD9⟩, hS.F ht⟩) hS.2.2 dX12_askLeaves_33
  · have h := (if_neg c11).symm.trans h
    refine lv_aload_n hx hb dX12_askLeaves_14 rfl (lv_at hl 1 rfl) ?_
    refine lv_iload_n hx hb dX12_askLeaves_15 rfl (lv_at hl 0 rfl) ?_
    obtain ⟨o16, eo16⟩ : ∃ o, o = f_X12_refused o6 ((0 : Int32), m_t.2) := ⟨_, rfl⟩
    have h := nm_of h o16 eo16
    refine cl_i (wc := ([(a0, .inr (9, [.int 0, .int m_t.2.1, .int m_t.2.2, .ref a1, g6, g7, g8, g9, g10, g11, g12, g13, g14, g15, g16, g17, g18, g19, g20, g21, g22, g23, g24, g25, .int m_k.1, .int m_k.2.1, .int m_k.2.2, g26, g27, g28]))])) (wr := (bX11 a1 uq kq q_q [])) (va_runV (As := [.int o6]) (rest := []) ⟨hx, hb, hml, hown, hts⟩ (kfX12_refused l dC dI a0 o6 ((0 : Int32), m_t.2) (.ref a1) (g6) (g7) (g8) (g9) (g10) (g11) (g12) (g13) (g14) (g15) (g16) (g17) (g18) (g19) (g20) (g21) (g22) (g23) (g24) (g25) (.int m_k.1) (.int m_k.2.1) (.int m_k.2.2) (g26) (g27) (g28) H.size o16 eo16.symm) (cwV 1 hts gfX12_askLeaves_3 rfl rfl rfl (by decide +kernel) ⟨(Nat.le_of_ble_eq_true rfl), (Nat.le_of_ble_eq_true rfl)⟩) (PV (hP.sub (ws' := ([(a0, .inr (9, [.int 0, .int m_t.2.1, .int m_t.2.2, .ref a1, g6, g7, g8, g9, g10, g11, g12, g13, g14, g15, g16, g17, g18, g19, g20, g21, g22, g23, g24, g25, .int m_k.1, .int m_k.2.1, .int m_k.2.2, g26, g27, g28]))])) [0] rfl) (hK.sub (tys' := ([])) [] rfl) (hD.sub (ws' := ([(a0, .inr (9, [.int 0, .int m_t.2.1, .int m_t.2.2, .ref a1, g6, g7, g8, g9, g10, g11, g12, g13, g14, g15, g16, g17, g18, g19, g20, g21, g22, g23, g24, g25, .int m_k.1, .int m_k.2.1, .int m_k.2.2, g26, g27, g28]))])) [0] (by decide) rfl) hN 0 rfl rfl) rfl rfl hl.1 rfl (lv_room (Nat.le_of_ble_eq_true rfl)) dX12_askLeaves_16 ⟨(Nat.le_of_ble_eq_true rfl), (Nat.le_of_ble_eq_true rfl)⟩) hP hD hK hS hA [0] [1, 2, 3, 4, 5, 6, 7, 8, 9, 10, 11, 12, 13, 14, 15] rfl rfl (by decide) (by decide) (fun r16 _ H locs hw hP hD _ hS => ?_)
    obtain rfl := hw
    have hP : va_P (dC, dI) vwCl (bX11 a1 uq kq q_q ([(a0, .inr (9, [.int o16.1, .int o16.2.1, .int o16.2.2, .ref a1, g6, g7, g8, g9, g10, g11, g12, g13, g14, g15, g16, g17, g18, g19, g20, g21, g22, g23, g24, g25, .int m_k.1, .int m_k.2.1, .int m_k.2.2, g26, g27, g28]))])) H := hP
    have hD : va_D A (bX11 a1 uq kq q_q ([(a0, .inr (9, [.int o16.1, .int o16.2.1, .int o16.2.2, .ref a1, g6, g7, g8, g9, g10, g11, g12, g13, g14, g15, g16, g17, g18, g19, g20, g21, g22, g23, g24, g25, .int m_k.1, .int m_k.2.1, .int m_k.2.2, g26, g27, g28]))])) := hD
    obtain rfl := Option.some.inj h
    have hP9 := hP.sub (ws' := ((a0, .inr (9, [.int o16.1, .int o16.2.1, .int o16.2.2, .ref a1, g6, g7, g8, g9, g10, g11, g12, g13, g14, g15, g16, g17, g18, g19, g20, g21, g22, g23, g24, g25, .int m_k.1, .int m_k.2.1, .int m_k.2.2, g26, g27, g28])) :: bX11 a1 uq kq q_q [])) [15, 0, 1, 2, 3, 4, 5, 6, 7, 8, 9, 10, 11, 12, 13, 14] rfl
    have hD9 := hD.sub (ws' := ((a0, .inr (9, [.int o16.1, .int o16.2.1, .int o16.2.2, .ref a1, g6, g7, g8, g9, g10, g11, g12, g13, g14, g15, g16, g17, g18, g19, g20, g21, g22, g23, g24, g25, .int m_k.1, .int m_k.2.1, .int m_k.2.2, g26, g27, g28])) :: bX11 a1 uq kq q_q [])) [15, 0, 1, 2, 3, 4, 5, 6, 7, 8, 9, 10, 11, 12, 13, 14] (by decide) rfl
    have hK9 := hK.sub (tys' := []) [] rfl
    rw [hQQ]
    exact W.iret (v := (-1 : Int32)) hx hb hr (fun t ht hW => ⟨⟨(-1 : Int32), (), rfl, rfl, by rw [ht]; exact hP9, va_K.moved hW.alike hK9, hD9⟩, hS.F ht⟩) hS.2.2 dX12_askLeaves_19
theorem dX12_judge_0 : decode cX12_judge 0 = .ok (.aload_n 0, 1) := by decide +kernel
theorem dX12_judge_1 : decode cX12_judge 1 = .ok (.iconst 0, 1) := by decide +kernel
theorem dX12_judge_10 : decode cX12_judge 10 = .ok (.ifCond .ne 9, 3) := by decide +kernel
theorem dX12_judge_13 : decode cX12_judge 13 = .ok (.aload_n 0, 1) := by decide +kernel
theorem dX12_judge_14 : decode cX12_judge 14 = .ok (.iconst 1, 1) := by decide +kernel
theorem dX12_judge_15 : decode cX12_judge 15 = .ok (.invokevirtual 42, 3) := by decide +kernel
theorem dX12_judge_18 : decode cX12_judge 18 = .ok (.ireturn, 1) := by decide +kernel
theorem dX12_judge_19 : decode cX12_judge 19 = .ok (.aload_n 0, 1) := by decide +kernel
theorem dX12_judge_2 : decode cX12_judge 2 = .ok (.putfield 36, 3) := by decide +kernel
theorem dX12_judge_20 : decode cX12_judge 20 = .ok (.getfield 299, 3) := by decide +kernel
theorem dX12_judge_23 : decode cX12_judge 23 = .ok (.getfield 269, 3) := by decide +kernel
theorem dX12_judge_26 : decode cX12_judge 26 = .ok (.iconst (-1), 1) := by decide +kernel
theorem dX12_judge_27 : decode cX12_judge 27 = .ok (.if_icmp .ne 12, 3) := by decide +kernel
theorem dX12_judge_30 : decode cX12_judge 30 = .ok (.aload_n 0, 1) := by decide +kernel
theorem dX12_judge_31 : decode cX12_judge 31 = .ok (.bipush 6, 2) := by decide +kernel
theorem dX12_judge_33 : decode cX12_judge 33 = .ok (.invokevirtual 42, 3) := by decide +kernel
theorem dX12_judge_36 : decode cX12_judge 36 = .ok (.goto 41, 3) := by decide +kernel
theorem dX12_judge_39 : decode cX12_judge 39 = .ok (.aload_n 0, 1) := by decide +kernel
theorem dX12_judge_40 : decode cX12_judge 40 = .ok (.aload_n 0, 1) := by decide +kernel
theorem dX12_judge_41 : decode cX12_judge 41 = .ok (.getfield 299, 3) := by decide +kernel
theorem dX12_judge_44 : decode cX12_judge 44 = .ok (.aload_n 0, 1) := by decide +kernel
theorem dX12_judge_45 : decode cX12_judge 45 = .ok (.getfield 299, 3) := by decide +kernel
theorem dX12_judge_48 : decode cX12_judge 48 = .ok (.getfield 259, 3) := by decide +kernel
theorem dX12_judge_5 : decode cX12_judge 5 = .ok (.aload_n 0, 1) := by decide +kernel
theorem dX12_judge_51 : decode cX12_judge 51 = .ok (.iload_n 1, 1) := by decide +kernel
theorem dX12_judge_52 : decode cX12_judge 52 = .ok (.iaload, 1) := by decide +kernel
theorem dX12_judge_53 : decode cX12_judge 53 = .ok (.aload_n 0, 1) := by decide +kernel
theorem dX12_judge_54 : decode cX12_judge 54 = .ok (.getfield 299, 3) := by decide +kernel
theorem dX12_judge_57 : decode cX12_judge 57 = .ok (.getfield 261, 3) := by decide +kernel
theorem dX12_judge_6 : decode cX12_judge 6 = .ok (.iload_n 1, 1) := by decide +kernel
theorem dX12_judge_60 : decode cX12_judge 60 = .ok (.iload_n 1, 1) := by decide +kernel
theorem dX12_judge_61 : decode cX12_judge 61 = .ok (.iaload, 1) := by decide +kernel
theorem dX12_judge_62 : decode cX12_judge 62 = .ok (.aload_n 0, 1) := by decide +kernel
theorem dX12_judge_63 : decode cX12_judge 63 = .ok (.getfield 299, 3) := by decide +kernel
theorem dX12_judge_66 : decode cX12_judge 66 = .ok (.getfield 265, 3) := by decide +kernel
theorem dX12_judge_69 : decode cX12_judge 69 = .ok (.iload_n 1, 1) := by decide +kernel
theorem dX12_judge_7 : decode cX12_judge 7 = .ok (.invokevirtual 320, 3) := by decide +kernel
theorem dX12_judge_70 : decode cX12_judge 70 = .ok (.iaload, 1) := by decide +kernel
theorem dX12_judge_71 : decode cX12_judge 71 = .ok (.invokevirtual 414, 3) := by decide +kernel
theorem dX12_judge_74 : decode cX12_judge 74 = .ok (.invokevirtual 46, 3) := by decide +kernel
theorem dX12_judge_77 : decode cX12_judge 77 = .ok (.ireturn, 1) := by decide +kernel
def vfX12_judge : List Cond := List.cons (.code yX12_judge cX12_judge 2 (some .int)) (apW [.fieldLink RX12 36 "HookPierModel" "thrown" "I", .methodLink RX12 320 yX12_isAnswer, .instanceMethod yX12_isAnswer, .selects RX12 yX12_isAnswer yX12_isAnswer, .initialized RX12, .fieldLink RX12 299 "HookPierModel" "pier" "LHookPierModel$Pier;", .methodLink RX12 414 yX11_wrongBite, .instanceMethod yX11_wrongBite, .selects RX11 yX11_wrongBite yX11_wrongBite, .initialized RX11, .methodLink RX12 46 yX12_good, .instanceMethod yX12_good, .selects RX12 yX12_good yX12_good, .methodLink RX12 42 yX12_refused, .instanceMethod yX12_refused, .selects RX12 yX12_refused yX12_refused] (apW wsX120 (apW wsX110 (apW vfX12_isAnswer (apW vfX11_wrongBite (apW vfX12_good (vfX12_refused)))))))
theorem ifX12_judge_X12 : ∀ w ∈ wsX120, w ∈ vfX12_judge := fun _ h => (List.mem_cons_of_mem _ (List.mem_append_right _ (List.mem_append_left _ h)))
theorem ifX12_judge_X11 : ∀ w ∈ wsX110, w ∈ vfX12_judge := fun _ h => (List.mem_cons_of_mem _ (List.mem_append_right _ (List.mem_append_right _ (List.mem_append_left _ h))))
theorem qfX12_judge : Good vfX12_judge := gd_cons (by decide +kernel) (gd_app (gd_dec (by decide +kernel) : Good [.fieldLink RX12 36 "HookPierModel" "thrown" "I", .methodLink RX12 320 yX12_isAnswer, .instanceMethod yX12_isAnswer, .selects RX12 yX12_isAnswer yX12_isAnswer, .initialized RX12, .fieldLink RX12 299 "HookPierModel" "pier" "LHookPierModel$Pier;", .methodLink RX12 414 yX11_wrongBite, .instanceMethod yX11_wrongBite, .selects RX11 yX11_wrongBite yX11_wrongBite, .initialized RX11, .methodLink RX12 46 yX12_good, .instanceMethod yX12_good, .selects RX12 yX12_good yX12_good, .methodLink RX12 42 yX12_refused, .instanceMethod yX12_refused, .selects RX12 yX12_refused yX12_refused]) (gd_app qsX12 (gd_app qsX11 (gd_app qfX12_isAnswer (gd_app qfX11_wrongBite (gd_app qfX12_good qfX12_refused))))))
theorem gfX12_judge_0 : GoodIn vfX12_judge (wsV RX12 320 RX12 yX12_isAnswer vfX12_isAnswer) := goodIn_app (goodIn_r [.methodLink RX12 320 yX12_isAnswer, .instanceMethod yX12_isAnswer, .selects RX12 yX12_isAnswer yX12_isAnswer, .initialized RX12] [2, 3, 4, 5] rfl (by decide +kernel)) (goodIn_m (fun _ h => (List.mem_cons_of_mem _ (List.mem_append_right _ (List.mem_append_right _ (List.mem_append_right _ (List.mem_append_left _ h)))))) qfX12_isAnswer)
theorem gfX12_judge_1 : GoodIn vfX12_judge (wsV RX12 414 RX11 yX11_wrongBite vfX11_wrongBite) := goodIn_app (goodIn_r [.methodLink RX12 414 yX11_wrongBite, .instanceMethod yX11_wrongBite, .selects RX11 yX11_wrongBite yX11_wrongBite, .initialized RX11] [7, 8, 9, 10] rfl (by decide +kernel)) (goodIn_m (fun _ h => (List.mem_cons_of_mem _ (List.mem_append_right _ (List.mem_append_right _ (List.mem_append_right _ (List.mem_append_right _ (List.mem_append_left _ h))))))) qfX11_wrongBite)
theorem gfX12_judge_2 : GoodIn vfX12_judge (wsV RX12 46 RX12 yX12_good vfX12_good) := goodIn_app (goodIn_r [.methodLink RX12 46 yX12_good, .instanceMethod yX12_good, .selects RX12 yX12_good yX12_good, .initialized RX12] [11, 12, 13, 5] rfl (by decide +kernel)) (goodIn_m (fun _ h => (List.mem_cons_of_mem _ (List.mem_append_right _ (List.mem_append_right _ (List.mem_append_right _ (List.mem_append_right _ (List.mem_append_right _ (List.mem_append_left _ h)))))))) qfX12_good)
theorem gfX12_judge_3 : GoodIn vfX12_judge (wsV RX12 42 RX12 yX12_refused vfX12_refused) := goodIn_app (goodIn_r [.methodLink RX12 42 yX12_refused, .instanceMethod yX12_refused, .selects RX12 yX12_refused yX12_refused, .initialized RX12] [14, 15, 16, 5] rfl (by decide +kernel)) (goodIn_m (fun _ h => (List.mem_cons_of_mem _ (List.mem_append_right _ (List.mem_append_right _ (List.mem_append_right _ (List.mem_append_right _ (List.mem_append_right _ (List.mem_append_right _ h)))))))) qfX12_refused)
set_option maxHeartbeats 2000000 in
set_option maxRecDepth 100000 in
theorem kfX12_judge (l : Launch) (dC : Nat → ClassId) (dI : Nat → Nat → Nat) (a0 : Nat) (k1 : Int32) (a2 : Nat) (uq : Nat → Nat) (kq : Nat → ClassId) (m_t : TX12_t) (g6 : Value) (g7 : Value) (g8 : Value) (g9 : Value) (g10 : Value) (g11 : Value) (g12 : Value) (g13 : Value) (g14 : Value) (g15 : Value) (g16 : Value) (g17 : Value) (g18 : Value) (g19 : Value) (g20 : Value) (g21 : Value) (g22 : Value) (g23 : Value) (g24 : Value) (g25 : Value) (g26 : Value) (g27 : Value) (g28 : Value) (g29 : Value) (g30 : Value) (g31 : Value) (q_q : TX11_q) (sz : Nat) (out : (Int32 × TX12_t)) (h : f_X12_judge k1 m_t q_q = some out) : Met l yX12_judge vfX12_judge ({ frames := 3, cells := 0, slots := 0, locals := 71 }) (PC (dC, dI) [.ref a0, .int k1] sz ((a0, .inr (9, [.int m_t.1, .int m_t.2.1, .int m_t.2.2, .ref a2, g6, g7, g8, g9, g10, g11, g12, g13, g14, g15, g16, g17, g18, g19, g20, g21, g22, g23, g24, g25, g26, g27, g28, g29, g30, g31])) :: bX11 a2 uq kq q_q []) (tX11 kq ([]))) (va_Qi (S := Unit) (fun (r : Int32) _ => r = out.1) (fun _ t => BC (dC, dI) (va_A ((a0, .inr (9, [.int m_t.1, .int m_t.2.1, .int m_t.2.2, .ref a2, g6, g7, g8, g9, g10, g11, g12, g13, g14, g15, g16, g17, g18, g19, g20, g21, g22, g23, g24, g25, g26, g27, g28, g29, g30, g31])) :: bX11 a2 uq kq q_q []) sz) ((a0, .inr (9, [.int out.2.1, .int out.2.2.1, .int out.2.2.2, .ref a2, g6, g7, g8, g9, g10, g11, g12, g13, g14, g15, g16, g17, g18, g19, g20, g21, g22, g23, g24, g25, g26, g27, g28, g29, g30, g31])) :: bX11 a2 uq kq q_q []) [] t) (va_A ((a0, .inr (9, [.int m_t.1, .int m_t.2.1, .int m_t.2.2, .ref a2, g6, g7, g8, g9, g10, g11, g12, g13, g14, g15, g16, g17, g18, g19, g20, g21, g22, g23, g24, g25, g26, g27, g28, g29, g30, g31])) :: bX11 a2 uq kq q_q []) sz)) 0 0 (va_A ((a0, .inr (9, [.int m_t.1, .int m_t.2.1, .int m_t.2.2, .ref a2, g6, g7, g8, g9, g10, g11, g12, g13, g14, g15, g16, g17, g18, g19, g20, g21, g22, g23, g24, g25, g26, g27, g28, g29, g30, g31])) :: bX11 a2 uq kq q_q []) sz) := by
  refine Met.ofW (cc := cX12_judge) (maxL := 2) (ret := (some .int)) (by decide) rfl ?_
  intro p e s m args below meth c s₁ B0 hml hv
  obtain ⟨rfl, hsz, hP, hK, hD0, hN⟩ := hv
  have hx := B0.exec
  have hb := B0.bytes
  have hr := B0.returns
  have hts := atoms_spec (ws := vfX12_judge) B0.pre
  have hown : s.vm.findClass RX12 = some m.cls := findClass_of_methodNamed B0.named
  have hlocks := B0.notSynchronized
  subst hsz
  have hD := hD0.self (sz := s.heap.size)
  generalize hAe : va_A ((a0, .inr (9, [.int m_t.1, .int m_t.2.1, .int m_t.2.2, .ref a2, g6, g7, g8, g9, g10, g11, g12, g13, g14, g15, g16, g17, g18, g19, g20, g21, g22, g23, g24, g25, g26, g27, g28, g29, g30, g31])) :: bX11 a2 uq kq q_q []) s.heap.size = A at hD ⊢
  have hA : ∀ q : Nat, s.heap.size ≤ q → A q := fun q h => by rw [← hAe]; exact Or.inr h
  have hS : va_S A s.heap s.heap [] := va_S.rf
  have hP : va_P (dC, dI) vwCl ((a0, .inr (9, [.int m_t.1, .int m_t.2.1, .int m_t.2.2, .ref a2, g6, g7, g8, g9, g10, g11, g12, g13, g14, g15, g16, g17, g18, g19, g20, g21, g22, g23, g24, g25, g26, g27, g28, g29, g30, g31])) :: bX11 a2 uq kq q_q []) s.heap := hP
  have hl := lv_entry ([.ref a0, .int k1]) (n := 2) (Nat.le_of_ble_eq_true rfl)
  rw [lg_entry_eq]
  generalize (lg_sl ([.ref a0, .int k1]) ++ List.replicate (2 - (lg_sl ([.ref a0, .int k1])).length) Slot.unset).toArray = ls at hl ⊢
  have hl : lv_has ls 2 [(0, .ref a0), (1, .int k1)] := hl
  refine W_q (fun QQ hQQ => ?_)
  rw [f_X12_judge] at h
  refine lv_aload_n hx hb dX12_judge_0 rfl (lv_at hl 0 rfl) ?_
  refine lv_iconst (v := 0) hx hb dX12_judge_1 (by decide) ?_
  refine va_put (D := (dC, dI)) (ci := 9) (v := .int 0) (ty := .int) (C := RX12) (T := TX12) (N := 30) hx hb hts ifX12_judge_X12 tyX12 tyX12_ok nmX12 hown hK hP hD hS 0 rfl rfl 0 (by decide) (hts (.fieldLink RX12 36 "HookPierModel" "thrown" "I") (List.mem_of_getElem? (i := 1) rfl)) (fun _ h9 => h9) rfl (by decide +kernel) rfl rfl (Nat.le_of_ble_eq_true rfl) dX12_judge_2 (fun H locs hP hD hS => ?_)
  have hP : va_P (dC, dI) vwCl ((a0, .inr (9, [.int 0, .int m_t.2.1, .int m_t.2.2, .ref a2, g6, g7, g8, g9, g10, g11, g12, g13, g14, g15, g16, g17, g18, g19, g20, g21, g22, g23, g24, g25, g26, g27, g28, g29, g30, g31])) :: bX11 a2 uq kq q_q []) H := hP
  have hD : va_D A ((a0, .inr (9, [.int 0, .int m_t.2.1, .int m_t.2.2, .ref a2, g6, g7, g8, g9, g10, g11, g12, g13, g14, g15, g16, g17, g18, g19, g20, g21, g22, g23, g24, g25, g26, g27, g28, g29, g30, g31])) :: bX11 a2 uq kq q_q []) := hD
  refine lv_aload_n hx hb dX12_judge_5 rfl (lv_at hl 0 rfl) ?_
  refine lv_iload_n hx hb dX12_judge_6 rfl (lv_at hl 1 rfl) ?_
  obtain ⟨o7, eo7⟩ : ∃ o, o = f_X12_isAnswer k1 q_q := ⟨_, rfl⟩
  have h := nm_of h o7 eo7
  refine cl_i (wc := ((a0, .inr (9, [.int 0, .int m_t.2.1, .int m_t.2.2, .ref a2, g6, g7, g8, g9, g10, g11, g12, g13, g14, g15, g16, g17, g18, g19, g20, g21, g22, g23, g24, g25, g26, g27, g28, g29, g30, g31])) :: bX11 a2 uq kq q_q [])) (wr := []) (va_runV (As := [.int k1]) (rest := []) ⟨hx, hb, hml, hown, hts⟩ (kfX12_isAnswer l dC dI a0 k1 a2 uq kq (.int 0) (.int m_t.2.1) (.int m_t.2.2) (g6) (g7) (g8) (g9) (g10) (g11) (g12) (g13) (g14) (g15) (g16) (g17) (g18) (g19) (g20) (g21) (g22) (g23) (g24) (g25) (g26) (g27) (g28) (g29) (g30) (g31) q_q H.size o7 eo7.symm) (cwV 1 hts gfX12_judge_0 rfl rfl rfl (by decide +kernel) ⟨(Nat.le_of_ble_eq_true rfl), (Nat.le_of_ble_eq_true rfl)⟩) (PV (hP.sub (ws' := ((a0, .inr (9, [.int 0, .int m_t.2.1, .int m_t.2.2, .ref a2, g6, g7, g8, g9, g10, g11, g12, g13, g14, g15, g16, g17, g18, g19, g20, g21, g22, g23, g24, g25, g26, g27, g28, g29, g30, g31])) :: bX11 a2 uq kq q_q [])) [0, 1, 2, 3, 4, 5, 6, 7, 8, 9, 10, 11, 12, 13, 14, 15] rfl) (hK.sub (tys' := (tX11 kq ([]))) [0, 1, 2, 3, 4, 5, 6, 7, 8, 9, 10, 11, 12, 13] rfl) (hD.sub (ws' := ((a0, .inr (9, [.int 0, .int m_t.2.1, .int m_t.2.2, .ref a2, g6, g7, g8, g9, g10, g11, g12, g13, g14, g15, g16, g17, g18, g19, g20, g21, g22, g23, g24, g25, g26, g27, g28, g29, g30, g31])) :: bX11 a2 uq kq q_q [])) [0, 1, 2, 3, 4, 5, 6, 7, 8, 9, 10, 11, 12, 13, 14, 15] (by decide) rfl) hN 0 rfl rfl) rfl rfl hl.1 rfl (lv_room (Nat.le_of_ble_eq_true rfl)) dX12_judge_7 ⟨(Nat.le_of_ble_eq_true rfl), (Nat.le_of_ble_eq_true rfl)⟩) hP hD hK hS hA [0, 1, 2, 3, 4, 5, 6, 7, 8, 9, 10, 11, 12, 13, 14, 15] [] rfl rfl (by decide) (by decide) (fun r7 _ H locs hw hP hD _ hS => ?_)
  obtain ⟨hw, br7⟩ := hw
  obtain rfl := hw.symm
  have hP : va_P (dC, dI) vwCl ((a0, .inr (9, [.int 0, .int m_t.2.1, .int m_t.2.2, .ref a2, g6, g7, g8, g9, g10, g11, g12, g13, g14, g15, g16, g17, g18, g19, g20, g21, g22, g23, g24, g25, g26, g27, g28, g29, g30, g31])) :: bX11 a2 uq kq q_q []) H := hP
  have hD : va_D A ((a0, .inr (9, [.int 0, .int m_t.2.1, .int m_t.2.2, .ref a2, g6, g7, g8, g9, g10, g11, g12, g13, g14, g15, g16, g17, g18, g19, g20, g21, g22, g23, g24, g25, g26, g27, g28, g29, g30, g31])) :: bX11 a2 uq kq q_q []) := hD
  refine lv_if_ne (tgt := 19) hx hb dX12_judge_10 (by decide) (fun c10 => ?_) (fun c10 => ?_)
  · have h := (if_neg c10).symm.trans h
    refine lv_aload_n hx hb dX12_judge_19 rfl (lv_at hl 0 rfl) ?_
    refine va_get (D := (dC, dI)) (ci := 9) (v := .ref a2) (C := RX12) (T := TX12) (N := 30) hx hb hts ifX12_judge_X12 hown hK hP 0 rfl rfl 3 (by decide) (hts (.fieldLink RX12 299 "HookPierModel" "pier" "LHookPierModel$Pier;") (List.mem_of_getElem? (i := 6) rfl)) (fun _ h9 => h9) rfl dX12_judge_20 ?_
    refine va_getN (D := (dC, dI)) (ci := 8) (v := .int q_q.2.2.2.2.2.2.2.2.1) (C := RX11) (T := TX11) (N := 24) hx hb hts ifX12_judge_X11 hown hK hP 1 rfl rfl 8 (by decide) (va_Nw.use rfl (hN.1 (.fieldLinkNest RX12 269 "HookPierModel$Pier" "dark" "I" "HookPierModel") (List.mem_of_getElem? (i := 30) rfl))) (fun _ h9 => h9) rfl dX12_judge_23 ?_
    refine lv_iconst (v := (-1)) hx hb dX12_judge_26 (by decide) ?_
    refine lv_icmp_ne (tgt := 39) hx hb dX12_judge_27 (by decide) (fun c27 => ?_) (fun c27 => ?_)
    · have h := (if_neg c27).symm.trans h
      refine lv_aload_n hx hb dX12_judge_39 rfl (lv_at hl 0 rfl) ?_
      refine lv_aload_n hx hb dX12_judge_40 rfl (lv_at hl 0 rfl) ?_
      refine va_get (D := (dC, dI)) (ci := 9) (v := .ref a2) (C := RX12) (T := TX12) (N := 30) hx hb hts ifX12_judge_X12 hown hK hP 0 rfl rfl 3 (by decide) (hts (.fieldLink RX12 299 "HookPierModel" "pier" "LHookPierModel$Pier;") (List.mem_of_getElem? (i := 6) rfl)) (fun _ h9 => h9) rfl dX12_judge_41 ?_
      refine lv_aload_n hx hb dX12_judge_44 rfl (lv_at hl 0 rfl) ?_
      refine va_get (D := (dC, dI)) (ci := 9) (v := .ref a2) (C := RX12) (T := TX12) (N := 30) hx hb hts ifX12_judge_X12 hown hK hP 0 rfl rfl 3 (by decide) (hts (.fieldLink RX12 299 "HookPierModel" "pier" "LHookPierModel$Pier;") (List.mem_of_getElem? (i := 6) rfl)) (fun _ h9 => h9) rfl dX12_judge_45 ?_
      refine va_getN (D := (dC, dI)) (ci := 8) (v := .ref (uq 2)) (C := RX11) (T := TX11) (N := 24) hx hb hts ifX12_judge_X11 hown hK hP 1 rfl rfl 12 (by decide) (va_Nw.use rfl (hN.1 (.fieldLinkNest RX12 259 "HookPierModel$Pier" "spot" "[I" "HookPierModel") (List.mem_of_getElem? (i := 34) rfl))) (fun _ h9 => h9) rfl dX12_judge_48 ?_
      refine lv_iload_n hx hb dX12_judge_51 rfl (lv_at hl 1 rfl) ?_
      obtain ⟨hg52, h⟩ := gA_of h
      refine va_iald hx hb hK hP 4 2 rfl rfl hg52 dX12_judge_52 ?_
      refine lv_aload_n hx hb dX12_judge_53 rfl (lv_at hl 0 rfl) ?_
      refine va_get (D := (dC, dI)) (ci := 9) (v := .ref a2) (C := RX12) (T := TX12) (N := 30) hx hb hts ifX12_judge_X12 hown hK hP 0 rfl rfl 3 (by decide) (hts (.fieldLink RX12 299 "HookPierModel" "pier" "LHookPierModel$Pier;") (List.mem_of_getElem? (i := 6) rfl)) (fun _ h9 => h9) rfl dX12_judge_54 ?_
      refine va_getN (D := (dC, dI)) (ci := 8) (v := .ref (uq 3)) (C := RX11) (T := TX11) (N := 24) hx hb hts ifX12_judge_X11 hown hK hP 1 rfl rfl 13 (by decide) (va_Nw.use rfl (hN.1 (.fieldLinkNest RX12 261 "HookPierModel$Pier" "depth" "[I" "HookPierModel") (List.mem_of_getElem? (i := 35) rfl))) (fun _ h9 => h9) rfl dX12_judge_57 ?_
      refine lv_iload_n hx hb dX12_judge_60 rfl (lv_at hl 1 rfl) ?_
      obtain ⟨hg61, h⟩ := gA_of h
      refine va_iald hx hb hK hP 5 3 rfl rfl hg61 dX12_judge_61 ?_
      refine lv_aload_n hx hb dX12_judge_62 rfl (lv_at hl 0 rfl) ?_
      refine va_get (D := (dC, dI)) (ci := 9) (v := .ref a2) (C := RX12) (T := TX12) (N := 30) hx hb hts ifX12_judge_X12 hown hK hP 0 rfl rfl 3 (by decide) (hts (.fieldLink RX12 299 "HookPierModel" "pier" "LHookPierModel$Pier;") (List.mem_of_getElem? (i := 6) rfl)) (fun _ h9 => h9) rfl dX12_judge_63 ?_
      refine va_getN (D := (dC, dI)) (ci := 8) (v := .ref (uq 5)) (C := RX11) (T := TX11) (N := 24) hx hb hts ifX12_judge_X11 hown hK hP 1 rfl rfl 15 (by decide) (va_Nw.use rfl (hN.1 (.fieldLinkNest RX12 265 "HookPierModel$Pier" "likes" "[I" "HookPierModel") (List.mem_of_getElem? (i := 37) rfl))) (fun _ h9 => h9) rfl dX12_judge_66 ?_
      refine lv_iload_n hx hb dX12_judge_69 rfl (lv_at hl 1 rfl) ?_
      obtain ⟨hg70, h⟩ := gA_of h
      refine va_iald hx hb hK hP 7 5 rfl rfl hg70 dX12_judge_70 ?_
      obtain ⟨o71, eo71, h⟩ := bd_of h
      refine cl_i (wc := (bX11 a2 uq kq q_q [])) (wr := ([(a0, .inr (9, [.int 0, .int m_t.2.1, .int m_t.2.2, .ref a2, g6, g7, g8, g9, g10, g11, g12, g13, g14, g15, g16, g17, g18, g19, g20, g21, g22, g23, g24, g25, g26, g27, g28, g29, g30, g31]))])) (va_runV (As := [.int (q_q.2.2.2.2.2.2.2.2.2.2.2.2.1 (k1).toNatClampNeg), .int (q_q.2.2.2.2.2.2.2.2.2.2.2.2.2.1 (k1).toNatClampNeg), .int (q_q.2.2.2.2.2.2.2.2.2.2.2.2.2.2.2.1 (k1).toNatClampNeg)]) (rest := [.ref a0]) ⟨hx, hb, hml, hown, hts⟩ (kfX11_wrongBite l dC dI a2 (q_q.2.2.2.2.2.2.2.2.2.2.2.2.1 (k1).toNatClampNeg) (q_q.2.2.2.2.2.2.2.2.2.2.2.2.2.1 (k1).toNatClampNeg) (q_q.2.2.2.2.2.2.2.2.2.2.2.2.2.2.2.1 (k1).toNatClampNeg) uq kq q_q H.size o71 eo71) (cwV 3 hts gfX12_judge_1 rfl rfl rfl (by decide +kernel) ⟨(Nat.le_of_ble_eq_true rfl), (Nat.le_of_ble_eq_true rfl)⟩) (PV (hP.sub (ws' := (bX11 a2 uq kq q_q [])) [1, 2, 3, 4, 5, 6, 7, 8, 9, 10, 11, 12, 13, 14, 15] rfl) (hK.sub (tys' := (tX11 kq ([]))) [0, 1, 2, 3, 4, 5, 6, 7, 8, 9, 10, 11, 12, 13] rfl) (hD.sub (ws' := (bX11 a2 uq kq q_q [])) [1, 2, 3, 4, 5, 6, 7, 8, 9, 10, 11, 12, 13, 14, 15] (by decide) rfl) hN 0 rfl rfl) rfl rfl hl.1 rfl (lv_room (Nat.le_of_ble_eq_true rfl)) dX12_judge_71 ⟨(Nat.le_of_ble_eq_true rfl), (Nat.le_of_ble_eq_true rfl)⟩) hP hD hK hS hA [1, 2, 3, 4, 5, 6, 7, 8, 9, 10, 11, 12, 13, 14, 15] [0] rfl rfl (by decide) (by decide) (fun r71 _ H locs hw hP hD _ hS => ?_)
      obtain rfl := hw.symm
      have hP : va_P (dC, dI) vwCl ((a0, .inr (9, [.int 0, .int m_t.2.1, .int m_t.2.2, .ref a2, g6, g7, g8, g9, g10, g11, g12, g13, g14, g15, g16, g17, g18, g19, g20, g21, g22, g23, g24, g25, g26, g27, g28, g29, g30, g31])) :: bX11 a2 uq kq q_q []) H := hP
      have hD : va_D A ((a0, .inr (9, [.int 0, .int m_t.2.1, .int m_t.2.2, .ref a2, g6, g7, g8, g9, g10, g11, g12, g13, g14, g15, g16, g17, g18, g19, g20, g21, g22, g23, g24, g25, g26, g27, g28, g29, g30, g31])) :: bX11 a2 uq kq q_q []) := hD
      obtain ⟨o74, eo74⟩ : ∃ o, o = f_X12_good o71 ((0 : Int32), m_t.2) := ⟨_, rfl⟩
      have h := nm_of h o74 eo74
      refine cl_i (wc := ([(a0, .inr (9, [.int 0, .int m_t.2.1, .int m_t.2.2, .ref a2, g6, g7, g8, g9, g10, g11, g12, g13, g14, g15, g16, g17, g18, g19, g20, g21, g22, g23, g24, g25, g26, g27, g28, g29, g30, g31]))])) (wr := (bX11 a2 uq kq q_q [])) (va_runV (As := [.int o71]) (rest := []) ⟨hx, hb, hml, hown, hts⟩ (kfX12_good l dC dI a0 o71 ((0 : Int32), m_t.2) (.ref a2) (g6) (g7) (g8) (g9) (g10) (g11) (g12) (g13) (g14) (g15) (g16) (g17) (g18) (g19) (g20) (g21) (g22) (g23) (g24) (g25) (g26) (g27) (g28) (g29) (g30) (g31) H.size o74 eo74.symm) (cwV 1 hts gfX12_judge_2 rfl rfl rfl (by decide +kernel) ⟨(Nat.le_of_ble_eq_true rfl), (Nat.le_of_ble_eq_true rfl)⟩) (PV (hP.sub (ws' := ([(a0, .inr (9, [.int 0, .int m_t.2.1, .int m_t.2.2, .ref a2, g6, g7, g8, g9, g10, g11, g12, g13, g14, g15, g16, g17, g18, g19, g20, g21, g22, g23, g24, g25, g26, g27, g28, g29, g30, g31]))])) [0] rfl) (hK.sub (tys' := ([])) [] rfl) (hD.sub (ws' := ([(a0, .inr (9, [.int 0, .int m_t.2.1, .int m_t.2.2, .ref a2, g6, g7, g8, g9, g10, g11, g12, g13, g14, g15, g16, g17, g18, g19, g20, g21, g22, g23, g24, g25, g26, g27, g28, g29, g30, g31]))])) [0] (by decide) rfl) hN 0 rfl rfl) rfl rfl hl.1 rfl (lv_room (Nat.le_of_ble_eq_true rfl)) dX12_judge_74 ⟨(Nat.le_of_ble_eq_true rfl), (Nat.le_of_ble_eq_true rfl)⟩) hP hD hK hS hA [0] [1, 2, 3, 4, 5, 6, 7, 8, 9, 10, 11, 12, 13, 14, 15] rfl rfl (by decide) (by decide) (fun r74 _ H locs hw hP hD _ hS => ?_)
      obtain rfl := hw
      have hP : va_P (dC, dI) vwCl (bX11 a2 uq kq q_q ([(a0, .inr (9, [.int o74.2.1, .int o74.2.2.1, .int o74.2.2.2, .ref a2, g6, g7, g8, g9, g10, g11, g12, g13, g14, g15, g16, g17, g18, g19, g20, g21, g22, g23, g24, g25, g26, g27, g28, g29, g30, g31]))])) H := hP
      have hD : va_D A (bX11 a2 uq kq q_q ([(a0, .inr (9, [.int o74.2.1, .int o74.2.2.1, .int o74.2.2.2, .ref a2, g6, g7, g8, g9, g10, g11, g12, g13, g14, g15, g16, g17, g18, g19, g20, g21, g22, g23, g24, g25, g26, g27, g28, g29, g30, g31]))])) := hD
      obtain rfl := Option.some.inj h
      have hP9 := hP.sub (ws' := ((a0, .inr (9, [.int o74.2.1, .int o74.2.2.1, .int o74.2.2.2, .ref a2, g6, g7, g8, g9, g10, g11, g12, g13, g14, g15, g16, g17, g18, g19, g20, g21, g22, g23, g24, g25, g26, g27, g28, g29, g30, g31])) :: bX11 a2 uq kq q_q [])) [15, 0, 1, 2, 3, 4, 5, 6, 7, 8, 9, 10, 11, 12, 13, 14] rfl
      have hD9 := hD.sub (ws' := ((a0, .inr (9, [.int o74.2.1, .int o74.2.2.1, .int o74.2.2.2, .ref a2, g6, g7, g8, g9, g10, g11, g12, g13, g14, g15, g16, g17, g18, g19, g20, g21, g22, g23, g24, g25, g26, g27, g28, g29, g30, g31])) :: bX11 a2 uq kq q_q [])) [15, 0, 1, 2, 3, 4, 5, 6, 7, 8, 9, 10, 11, 12, 13, 14] (by decide) rfl
      have hK9 := hK.sub (tys' := []) [] rfl
      rw [hQQ]
      exact W.iret (v := o74.1) hx hb hr (fun t ht hW => ⟨⟨o74.1, (), rfl, rfl, by rw [ht]; exact hP9, va_K.moved hW.alike hK9, hD9⟩, hS.F ht⟩) hS.2.2 dX12_judge_77
    · have h := (if_pos c27).symm.trans h
      refine lv_aload_n hx hb dX12_judge_30 rfl (lv_at hl 0 rfl) ?_
      refine lv_bipush (v := 6) hx hb dX12_judge_31 (by decide) ?_
      obtain ⟨o33, eo33⟩ : ∃ o, o = f_X12_refused (6 : Int32) ((0 : Int32), m_t.2) := ⟨_, rfl⟩
      have h := nm_of h o33 eo33
      refine cl_i (wc := ([(a0, .inr (9, [.int 0, .int m_t.2.1, .int m_t.2.2, .ref a2, g6, g7, g8, g9, g10, g11, g12, g13, g14, g15, g16, g17, g18, g19, g20, g21, g22, g23, g24, g25, g26, g27, g28, g29, g30, g31]))])) (wr := (bX11 a2 uq kq q_q [])) (va_runV (As := [.int 6]) (rest := []) ⟨hx, hb, hml, hown, hts⟩ (kfX12_refused l dC dI a0 (6 : Int32) ((0 : Int32), m_t.2) (.ref a2) (g6) (g7) (g8) (g9) (g10) (g11) (g12) (g13) (g14) (g15) (g16) (g17) (g18) (g19) (g20) (g21) (g22) (g23) (g24) (g25) (g26) (g27) (g28) (g29) (g30) (g31) H.size o33 eo33.symm) (cwV 1 hts gfX12_judge_3 rfl rfl rfl (by decide +kernel) ⟨(Nat.le_of_ble_eq_true rfl), (Nat.le_of_ble_eq_true rfl)⟩) (PV (hP.sub (ws' := ([(a0, .inr (9, [.int 0, .int m_t.2.1, .int m_t.2.2, .ref a2, g6, g7, g8, g9, g10, g11, g12, g13, g14, g15, g16, g17, g18, g19, g20, g21, g22, g23, g24, g25, g26, g27, g28, g29, g30, g31]))])) [0] rfl) (hK.sub (tys' := ([])) [] rfl) (hD.sub (ws' := ([(a0, .inr (9, [.int 0, .int m_t.2.1, .int m_t.2.2, .ref a2, g6, g7, g8, g9, g10, g11, g12, g13, g14, g15, g16, g17, g18, g19, g20, g21, g22, g23, g24, g25, g26, g27, g28, g29, g30, g31]))])) [0] (by decide) rfl) hN 0 rfl rfl) rfl rfl hl.1 rfl (lv_room (Nat.le_of_ble_eq_true rfl)) dX12_judge_33 ⟨(Nat.le_of_ble_eq_true rfl), (Nat.le_of_ble_eq_true rfl)⟩) hP hD hK hS hA [0] [1, 2, 3, 4, 5, 6, 7, 8, 9, 10, 11, 12, 13, 14, 15] rfl rfl (by decide) (by decide) (fun r33 _ H locs hw hP hD _ hS => ?_)
      obtain rfl := hw
      have hP : va_P (dC, dI) vwCl (bX11 a2 uq kq q_q ([(a0, .inr (9, [.int o33.1, .int o33.2.1, .int o33.2.2, .ref a2, g6, g7, g8, g9, g10, g11, g12, g13, g14, g15, g16, g17, g18, g19, g20, g21, g22, g23, g24, g25, g26, g27, g28, g29, g30, g31]))])) H := hP
      have hD : va_D A (bX11 a2 uq kq q_q ([(a0, .inr (9, [.int o33.1, .int o33.2.1, .int o33.2.2, .ref a2, g6, g7, g8, g9, g10, g11, g12, g13, g14, g15, g16, g17, g18, g19, g20, g21, g22, g23, g24, g25, g26, g27, g28, g29, g30, g31]))])) := hD
      refine lv_goto (tgt := 77) hx hb dX12_judge_36 (by decide) ?_
      obtain rfl := Option.some.inj h
      have hP9 := hP.sub (ws' := ((a0, .inr (9, [.int o33.1, .int o33.2.1, .int o33.2.2, .ref a2, g6, g7, g8, g9, g10, g11, g12, g13, g14, g15, g16, g17, g18, g19, g20, g21, g22, g23, g24, g25, g26, g27, g28, g29, g30, g31])) :: bX11 a2 uq kq q_q [])) [15, 0, 1, 2, 3, 4, 5, 6, 7, 8, 9, 10, 11, 12, 13, 14] rfl
      have hD9 := hD.sub (ws' := ((a0, .inr (9, [.int o33.1, .int o33.2.1, .int o33.2.2, .ref a2, g6, g7, g8, g9, g10, g11, g12, g13, g14, g15, g16, g17, g18, g19, g20, g21, g22, g23, g24, g25, g26, g27, g28, g29, g30, g31])) :: bX11 a2 uq kq q_q [])) [15, 0, 1, 2, 3, 4, 5, 6, 7, 8, 9, 10, 11, 12, 13, 14] (by decide) rfl
      have hK9 := hK.sub (tys' := []) [] rfl
      rw [hQQ]
      exact W.iret (v := (-1 : Int32)) hx hb hr (fun t ht hW => ⟨⟨(-1 : Int32), (), rfl, rfl, by rw [ht]; exact hP9, va_K.moved hW.alike hK9, hD9⟩, hS.F ht⟩) hS.2.2 dX12_judge_77
  · have h := (if_pos c10).symm.trans h
    refine lv_aload_n hx hb dX12_judge_13 rfl (lv_at hl 0 rfl) ?_
    refine lv_iconst (v := 1) hx hb dX12_judge_14 (by decide) ?_
    obtain ⟨o15, eo15⟩ : ∃ o, o = f_X12_refused (1 : Int32) ((0 : Int32), m_t.2) := ⟨_, rfl⟩
    have h := nm_of h o15 eo15
    refine cl_i (wc := ([(a0, .inr (9, [.int 0, .int m_t.2.1, .int m_t.2.2, .ref a2, g6, g7, g8, g9, g10, g11, g12, g13, g14, g15, g16, g17, g18, g19, g20, g21, g22, g23, g24, g25, g26, g27, g28, g29, g30, g31]))])) (wr := (bX11 a2 uq kq q_q [])) (va_runV (As := [.int 1]) (rest := []) ⟨hx, hb, hml, hown, hts⟩ (kfX12_refused l dC dI a0 (1 : Int32) ((0 : Int32), m_t.2) (.ref a2) (g6) (g7) (g8) (g9) (g10) (g11) (g12) (g13) (g14) (g15) (g16) (g17) (g18) (g19) (g20) (g21) (g22) (g23) (g24) (g25) (g26) (g27) (g28) (g29) (g30) (g31) H.size o15 eo15.symm) (cwV 1 hts gfX12_judge_3 rfl rfl rfl (by decide +kernel) ⟨(Nat.le_of_ble_eq_true rfl), (Nat.le_of_ble_eq_true rfl)⟩) (PV (hP.sub (ws' := ([(a0, .inr (9, [.int 0, .int m_t.2.1, .int m_t.2.2, .ref a2, g6, g7, g8, g9, g10, g11, g12, g13, g14, g15, g16, g17, g18, g19, g20, g21, g22, g23, g24, g25, g26, g27, g28, g29, g30, g31]))])) [0] rfl) (hK.sub (tys' := ([])) [] rfl) (hD.sub (ws' := ([(a0, .inr (9, [.int 0, .int m_t.2.1, .int m_t.2.2, .ref a2, g6, g7, g8, g9, g10, g11, g12, g13, g14, g15, g16, g17, g18, g19, g20, g21, g22, g23, g24, g25, g26, g27, g28, g29, g30, g31]))])) [0] (by decide) rfl) hN 0 rfl rfl) rfl rfl hl.1 rfl (lv_room (Nat.le_of_ble_eq_true rfl)) dX12_judge_15 ⟨(Nat.le_of_ble_eq_true rfl), (Nat.le_of_ble_eq_true rfl)⟩) hP hD hK hS hA [0] [1, 2, 3, 4, 5, 6, 7, 8, 9, 10, 11, 12, 13, 14, 15] rfl rfl (by decide) (by decide) (fun r15 _ H locs hw hP hD _ hS => ?_)
    obtain rfl := hw
    have hP : va_P (dC, dI) vwCl (bX11 a2 uq kq q_q ([(a0, .inr (9, [.int o15.1, .int o15.2.1, .int o15.2.2, .ref a2, g6, g7, g8, g9, g10, g11, g12, g13, g14, g15, g16, g17, g18, g19, g20, g21, g22, g23, g24, g25, g26, g27, g28, g29, g30, g31]))])) H := hP
    have hD : va_D A (bX11 a2 uq kq q_q ([(a0, .inr (9, [.int o15.1, .int o15.2.1, .int o15.2.2, .ref a2, g6, g7, g8, g9, g10, g11, g12, g13, g14, g15, g16, g17, g18, g19, g20, g21, g22, g23, g24, g25, g26, g27, g28, g29, g30, g31]))])) := hD
    obtain rfl := Option.some.inj h
    have hP9 := hP.sub (ws' := ((a0, .inr (9, [.int o15.1, .int o15.2.1, .int o15.2.2, .ref a2, g6, g7, g8, g9, g10, g11, g12, g13, g14, g15, g16, g17, g18, g19, g20, g21, g22, g23, g24, g25, g26, g27, g28, g29, g30, g31])) :: bX11 a2 uq kq q_q [])) [15, 0, 1, 2, 3, 4, 5, 6, 7, 8, 9, 10, 11, 12, 13, 14] rfl
    have hD9 := hD.sub (ws' := ((a0, .inr (9, [.int o15.1, .int o15.2.1, .int o15.2.2, .ref a2, g6, g7, g8, g9, g10, g11, g12, g13, g14, g15, g16, g17, g18, g19, g20, g21, g22, g23, g24, g25, g26, g27, g28, g29, g30, g31])) :: bX11 a2 uq kq q_q [])) [15, 0, 1, 2, 3, 4, 5, 6, 7, 8, 9, 10, 11, 12, 13, 14] (by decide) rfl
    have hK9 := hK.sub (tys' := []) [] rfl
    rw [hQQ]
    exact W.iret (v := (-1 : Int32)) hx hb hr (fun t ht hW => ⟨⟨(-1 : Int32), (), rfl, rfl, by rw [ht]; exact hP9, va_K.moved hW.alike hK9, hD9⟩, hS.F ht⟩) hS.2.2 dX12_judge_18
theorem dX12_worth_0 : decode cX12_worth 0 = .ok (.aload_n 0, 1) := by decide +kernel
theorem dX12_worth_1 : decode cX12_worth 1 = .ok (.iconst 0, 1) := by decide +kernel
theorem dX12_worth_10 : decode cX12_worth 10 = .ok (.ifCond .ne 9, 3) := by decide +kernel
theorem dX12_worth_13 : decode cX12_worth 13 = .ok (.aload_n 0, 1) := by decide +kernel
theorem dX12_worth_14 : decode cX12_worth 14 = .ok (.iconst 1, 1) := by decide +kernel
theorem dX12_worth_15 : decode cX12_worth 15 = .ok (.invokevirtual 42, 3) := by decide +kernel
theorem dX12_worth_18 : decode cX12_worth 18 = .ok (.ireturn, 1) := by decide +kernel
theorem dX12_worth_19 : decode cX12_worth 19 = .ok (.iload_n 2, 1) := by decide +kernel
theorem dX12_worth_2 : decode cX12_worth 2 = .ok (.putfield 36, 3) := by decide +kernel
theorem dX12_worth_20 : decode cX12_worth 20 = .ok (.iconst 0, 1) := by decide +kernel
theorem dX12_worth_21 : decode cX12_worth 21 = .ok (.sipush 999, 3) := by decide +kernel
theorem dX12_worth_24 : decode cX12_worth 24 = .ok (.invokestatic 115, 3) := by decide +kernel
theorem dX12_worth_27 : decode cX12_worth 27 = .ok (.ifCond .eq 28, 3) := by decide +kernel
theorem dX12_worth_30 : decode cX12_worth 30 = .ok (.iload_n 3, 1) := by decide +kernel
theorem dX12_worth_31 : decode cX12_worth 31 = .ok (.iload_n 2, 1) := by decide +kernel
theorem dX12_worth_32 : decode cX12_worth 32 = .ok (.sipush 999, 3) := by decide +kernel
theorem dX12_worth_35 : decode cX12_worth 35 = .ok (.invokestatic 115, 3) := by decide +kernel
theorem dX12_worth_38 : decode cX12_worth 38 = .ok (.ifCond .eq 17, 3) := by decide +kernel
theorem dX12_worth_41 : decode cX12_worth 41 = .ok (.aload_n 0, 1) := by decide +kernel
theorem dX12_worth_42 : decode cX12_worth 42 = .ok (.aload_n 0, 1) := by decide +kernel
theorem dX12_worth_43 : decode cX12_worth 43 = .ok (.iload_n 1, 1) := by decide +kernel
theorem dX12_worth_44 : decode cX12_worth 44 = .ok (.iload_n 2, 1) := by decide +kernel
theorem dX12_worth_45 : decode cX12_worth 45 = .ok (.iload_n 3, 1) := by decide +kernel
theorem dX12_worth_46 : decode cX12_worth 46 = .ok (.invokevirtual 323, 3) := by decide +kernel
theorem dX12_worth_49 : decode cX12_worth 49 = .ok (.invokevirtual 46, 3) := by decide +kernel
theorem dX12_worth_5 : decode cX12_worth 5 = .ok (.aload_n 0, 1) := by decide +kernel
theorem dX12_worth_52 : decode cX12_worth 52 = .ok (.goto 8, 3) := by decide +kernel
theorem dX12_worth_55 : decode cX12_worth 55 = .ok (.aload_n 0, 1) := by decide +kernel
theorem dX12_worth_56 : decode cX12_worth 56 = .ok (.iconst 2, 1) := by decide +kernel
theorem dX12_worth_57 : decode cX12_worth 57 = .ok (.invokevirtual 42, 3) := by decide +kernel
theorem dX12_worth_6 : decode cX12_worth 6 = .ok (.iload_n 1, 1) := by decide +kernel
theorem dX12_worth_60 : decode cX12_worth 60 = .ok (.ireturn, 1) := by decide +kernel
theorem dX12_worth_7 : decode cX12_worth 7 = .ok (.invokevirtual 320, 3) := by decide +kernel
def vfX12_worth : List Cond := List.cons (.code yX12_worth cX12_worth 4 (some .int)) (apW [.fieldLink RX12 36 "HookPierModel" "thrown" "I", .methodLink RX12 320 yX12_isAnswer, .instanceMethod yX12_isAnswer, .selects RX12 yX12_isAnswer yX12_isAnswer, .initialized RX12, .methodLink RX12 115 yX12_in, .static yX12_in, .methodLink RX12 42 yX12_refused, .instanceMethod yX12_refused, .selects RX12 yX12_refused yX12_refused, .methodLink RX12 323 yX12_keeps, .instanceMethod yX12_keeps, .selects RX12 yX12_keeps yX12_keeps, .methodLink RX12 46 yX12_good, .instanceMethod yX12_good, .selects RX12 yX12_good yX12_good] (apW wsX120 (apW vfX12_isAnswer (apW vfX12_in (apW vfX12_refused (apW vfX12_keeps (vfX12_good)))))))
theorem ifX12_worth_X12 : ∀ w ∈ wsX120, w ∈ vfX12_worth := fun _ h => (List.mem_cons_of_mem _ (List.mem_append_right _ (List.mem_append_left _ h)))
theorem qfX12_worth : Good vfX12_worth := gd_cons (by decide +kernel) (gd_app (gd_dec (by decide +kernel) : Good [.fieldLink RX12 36 "HookPierModel" "thrown" "I", .methodLink RX12 320 yX12_isAnswer, .instanceMethod yX12_isAnswer, .selects RX12 yX12_isAnswer yX12_isAnswer, .initialized RX12, .methodLink RX12 115 yX12_in, .static yX12_in, .methodLink RX12 42 yX12_refused, .instanceMethod yX12_refused, .selects RX12 yX12_refused yX12_refused, .methodLink RX12 323 yX12_keeps, .instanceMethod yX12_keeps, .selects RX12 yX12_keeps yX12_keeps, .methodLink RX12 46 yX12_good, .instanceMethod yX12_good, .selects RX12 yX12_good yX12_good]) (gd_app qsX12 (gd_app qfX12_isAnswer (gd_app qfX12_in (gd_app qfX12_refused (gd_app qfX12_keeps qfX12_good))))))
theorem gfX12_worth_0 : GoodIn vfX12_worth (wsV RX12 320 RX12 yX12_isAnswer vfX12_isAnswer) := goodIn_app (goodIn_r [.methodLink RX12 320 yX12_isAnswer, .instanceMethod yX12_isAnswer, .selects RX12 yX12_isAnswer yX12_isAnswer, .initialized RX12] [2, 3, 4, 5] rfl (by decide +kernel)) (goodIn_m (fun _ h => (List.mem_cons_of_mem _ (List.mem_append_right _ (List.mem_append_right _ (List.mem_append_left _ h))))) qfX12_isAnswer)
theorem gfX12_worth_1 : GoodIn vfX12_worth (va_wsS RX12 115 yX12_in vfX12_in) := goodIn_app (goodIn_r [.methodLink RX12 115 yX12_in, .static yX12_in, .initialized RX12] [6, 7, 5] rfl (by decide +kernel)) (goodIn_m (fun _ h => (List.mem_cons_of_mem _ (List.mem_append_right _ (List.mem_append_right _ (List.mem_append_right _ (List.mem_append_left _ h)))))) qfX12_in)
theorem gfX12_worth_2 : GoodIn vfX12_worth (wsV RX12 42 RX12 yX12_refused vfX12_refused) := goodIn_app (goodIn_r [.methodLink RX12 42 yX12_refused, .instanceMethod yX12_refused, .selects RX12 yX12_refused yX12_refused, .initialized RX12] [8, 9, 10, 5] rfl (by decide +kernel)) (goodIn_m (fun _ h => (List.mem_cons_of_mem _ (List.mem_append_right _ (List.mem_append_right _ (List.mem_append_right _ (List.mem_append_right _ (List.mem_append_left _ h))))))) qfX12_refused)
theorem gfX12_worth_3 : GoodIn vfX12_worth (wsV RX12 323 RX12 yX12_keeps vfX12_keeps) := goodIn_app (goodIn_r [.methodLink RX12 323 yX12_keeps, .instanceMethod yX12_keeps, .selects RX12 yX12_keeps yX12_keeps, .initialized RX12] [11, 12, 13, 5] rfl (by decide +kernel)) (goodIn_m (fun _ h => (List.mem_cons_of_mem _ (List.mem_append_right _ (List.mem_append_right _ (List.mem_append_right _ (List.mem_append_right _ (List.mem_append_right _ (List.mem_append_left _ h)))))))) qfX12_keeps)
theorem gfX12_worth_4 : GoodIn vfX12_worth (wsV RX12 46 RX12 yX12_good vfX12_good) := goodIn_app (goodIn_r [.methodLink RX12 46 yX12_good, .instanceMethod yX12_good, .selects RX12 yX12_good yX12_good, .initialized RX12] [14, 15, 16, 5] rfl (by decide +kernel)) (goodIn_m (fun _ h => (List.mem_cons_of_mem _ (List.mem_append_right _ (List.mem_append_right _ (List.mem_append_right _ (List.mem_append_right _ (List.mem_append_right _ (List.mem_append_right _ h)))))))) qfX12_good)
set_option maxHeartbeats 2000000 in
set_option maxRecDepth 100000 in
theorem kfX12_worth (l : Launch) (dC : Nat → ClassId) (dI : Nat → Nat → Nat) (a0 : Nat) (k1 : Int32) (k2 : Int32) (k3 : Int32) (a4 : Nat) (uq : Nat → Nat) (kq : Nat → ClassId) (m_t : TX12_t) (g8 : Value) (g9 : Value) (g10 : Value) (g11 : Value) (g12 : Value) (g13 : Value) (g14 : Value) (g15 : Value) (g16 : Value) (g17 : Value) (g18 : Value) (g19 : Value) (g20 : Value) (g21 : Value) (g22 : Value) (g23 : Value) (g24 : Value) (g25 : Value) (g26 : Value) (g27 : Value) (g28 : Value) (g29 : Value) (g30 : Value) (g31 : Value) (g32 : Value) (g33 : Value) (q_q : TX11_q) (sz : Nat) (out : (Int32 × TX12_t)) (h : f_X12_worth k1 k2 k3 m_t q_q = some out) : Met l yX12_worth vfX12_worth ({ frames := 1, cells := 0, slots := 0, locals := 24 }) (PC (dC, dI) [.ref a0, .int k1, .int k2, .int k3] sz ((a0, .inr (9, [.int m_t.1, .int m_t.2.1, .int m_t.2.2, .ref a4, g8, g9, g10, g11, g12, g13, g14, g15, g16, g17, g18, g19, g20, g21, g22, g23, g24, g25, g26, g27, g28, g29, g30, g31, g32, g33])) :: bX11 a4 uq kq q_q []) (tX11 kq ([]))) (va_Qi (S := Unit) (fun (r : Int32) _ => r = out.1) (fun _ t => BC (dC, dI) (va_A ((a0, .inr (9, [.int m_t.1, .int m_t.2.1, .int m_t.2.2, .ref a4, g8, g9, g10, g11, g12, g13, g14, g15, g16, g17, g18, g19, g20, g21, g22, g23, g24, g25, g26, g27, g28, g29, g30, g31, g32, g33])) :: bX11 a4 uq kq q_q []) sz) ((a0, .inr (9, [.int out.2.1, .int out.2.2.1, .int out.2.2.2, .ref a4, g8, g9, g10, g11, g12, g13, g14, g15, g16, g17, g18, g19, g20, g21, g22, g23, g24, g25, g26, g27, g28, g29, g30, g31, g32, g33])) :: bX11 a4 uq kq q_q []) [] t) (va_A ((a0, .inr (9, [.int m_t.1, .int m_t.2.1, .int m_t.2.2, .ref a4, g8, g9, g10, g11, g12, g13, g14, g15, g16, g17, g18, g19, g20, g21, g22, g23, g24, g25, g26, g27, g28, g29, g30, g31, g32, g33])) :: bX11 a4 uq kq q_q []) sz)) 0 0 (va_A ((a0, .inr (9, [.int m_t.1, .int m_t.2.1, .int m_t.2.2, .ref a4, g8, g9, g10, g11, g12, g13, g14, g15, g16, g17, g18, g19, g20, g21, g22, g23, g24, g25, g26, g27, g28, g29, g30, g31, g32, g33])) :: bX11 a4 uq kq q_q []) sz) := by
  refine Met.ofW (cc := cX12_worth) (maxL := 4) (ret := (some .int)) (by decide) rfl ?_
  intro p e s m args below meth c s₁ B0 hml hv
  obtain ⟨rfl, hsz, hP, hK, hD0, hN⟩ := hv
  have hx := B0.exec
  have hb := B0.bytes
  have hr := B0.returns
  have hts := atoms_spec (ws := vfX12_worth) B0.pre
  have hown : s.vm.findClass RX12 = some m.cls := findClass_of_methodNamed B0.named
  have hlocks := B0.notSynchronized
  subst hsz
  have hD := hD0.self (sz := s.heap.size)
  generalize hAe : va_A ((a0, .inr (9, [.int m_t.1, .int m_t.2.1, .int m_t.2.2, .ref a4, g8, g9, g10, g11, g12, g13, g14, g15, g16, g17, g18, g19, g20, g21, g22, g23, g24, g25, g26, g27, g28, g29, g30, g31, g32, g33])) :: bX11 a4 uq kq q_q []) s.heap.size = A at hD ⊢
  have hA : ∀ q : Nat, s.heap.size ≤ q → A q := fun q h => by rw [← hAe]; exact Or.inr h
  have hS : va_S A s.heap s.heap [] := va_S.rf
  have hP : va_P (dC, dI) vwCl ((a0, .inr (9, [.int m_t.1, .int m_t.2.1, .int m_t.2.2, .ref a4, g8, g9, g10, g11, g12, g13, g14, g15, g16, g17, g18, g19, g20, g21, g22, g23, g24, g25, g26, g27, g28, g29, g30, g31, g32, g33])) :: bX11 a4 uq kq q_q []) s.heap := hP
  have hl := lv_entry ([.ref a0, .int k1, .int k2, .int k3]) (n := 4) (Nat.le_of_ble_eq_true rfl)
  rw [lg_entry_eq]
  generalize (lg_sl ([.ref a0, .int k1, .int k2, .int k3]) ++ List.replicate (4 - (lg_sl ([.ref a0, .int k1, .int k2, .int k3])).length) Slot.unset).toArray = ls at hl ⊢
  have hl : lv_has ls 4 [(0, .ref a0), (1, .int k1), (2, .int k2), (3, .int k3)] := hl
  refine W_q (fun QQ hQQ => ?_)
  rw [f_X12_worth] at h
  refine lv_aload_n hx hb dX12_worth_0 rfl (lv_at hl 0 rfl) ?_
  refine lv_iconst (v := 0) hx hb dX12_worth_1 (by decide) ?_
  refine va_put (D := (dC, dI)) (ci := 9) (v := .int 0) (ty := .int) (C := RX12) (T := TX12) (N := 30) hx hb hts ifX12_worth_X12 tyX12 tyX12_ok nmX12 hown hK hP hD hS 0 rfl rfl 0 (by decide) (hts (.fieldLink RX12 36 "HookPierModel" "thrown" "I") (List.mem_of_getElem? (i := 1) rfl)) (fun _ h9 => h9) rfl (by decide +kernel) rfl rfl (Nat.le_of_ble_eq_true rfl) dX12_worth_2 (fun H locs hP hD hS => ?_)
  have hP : va_P (dC, dI) vwCl ((a0, .inr (9, [.int 0, .int m_t.2.1, .int m_t.2.2, .ref a4, g8, g9, g10, g11, g12, g13, g14, g15, g16, g17, g18, g19, g20, g21, g22, g23, g24, g25, g26, g27, g28, g29, g30, g31, g32, g33])) :: bX11 a4 uq kq q_q []) H := hP
  have hD : va_D A ((a0, .inr (9, [.int 0, .int m_t.2.1, .int m_t.2.2, .ref a4, g8, g9, g10, g11, g12, g13, g14, g15, g16, g17, g18, g19, g20, g21, g22, g23, g24, g25, g26, g27, g28, g29, g30, g31, g32, g33])) :: bX11 a4 uq kq q_q []) := hD
  refine lv_aload_n hx hb dX12_worth_5 rfl (lv_at hl 0 rfl) ?_
  refine lv_iload_n hx hb dX12_worth_6 rfl (lv_at hl 1 rfl) ?_
  obtain ⟨o7, eo7⟩ : ∃ o, o = f_X12_isAnswer k1 q_q := ⟨_, rfl⟩
  have h := nm_of h o7 eo7
  refine cl_i (wc := ((a0, .inr (9, [.int 0, .int m_t.2.1, .int m_t.2.2, .ref a4, g8, g9, g10, g11, g12, g13, g14, g15, g16, g17, g18, g19, g20, g21, g22, g23, g24, g25, g26, g27, g28, g29, g30, g31, g32, g33])) :: bX11 a4 uq kq q_q [])) (wr := []) (va_runV (As := [.int k1]) (rest := []) ⟨hx, hb, hml, hown, hts⟩ (kfX12_isAnswer l dC dI a0 k1 a4 uq kq (.int 0) (.int m_t.2.1) (.int m_t.2.2) (g8) (g9) (g10) (g11) (g12) (g13) (g14) (g15) (g16) (g17) (g18) (g19) (g20) (g21) (g22) (g23) (g24) (g25) (g26) (g27) (g28) (g29) (g30) (g31) (g32) (g33) q_q H.size o7 eo7.symm) (cwV 1 hts gfX12_worth_0 rfl rfl rfl (by decide +kernel) ⟨(Nat.le_of_ble_eq_true rfl), (Nat.le_of_ble_eq_true rfl)⟩) (PV (hP.sub (ws' := ((a0, .inr (9, [.int 0, .int m_t.2.1, .int m_t.2.2, .ref a4, g8, g9, g10, g11, g12, g13, g14, g15, g16, g17, g18, g19, g20, g21, g22, g23, g24, g25, g26, g27, g28, g29, g30, g31, g32, g33])) :: bX11 a4 uq kq q_q [])) [0, 1, 2, 3, 4, 5, 6, 7, 8, 9, 10, 11, 12, 13, 14, 15] rfl) (hK.sub (tys' := (tX11 kq ([]))) [0, 1, 2, 3, 4, 5, 6, 7, 8, 9, 10, 11, 12, 13] rfl) (hD.sub (ws' := ((a0, .inr (9, [.int 0, .int m_t.2.1, .int m_t.2.2, .ref a4, g8, g9, g10, g11, g12, g13, g14, g15, g16, g17, g18, g19, g20, g21, g22, g23, g24, g25, g26, g27, g28, g29, g30, g31, g32, g33])) :: bX11 a4 uq kq q_q [])) [0, 1, 2, 3, 4, 5, 6, 7, 8, 9, 10, 11, 12, 13, 14, 15] (by decide) rfl) hN 0 rfl rfl) rfl rfl hl.1 rfl (lv_room (Nat.le_of_ble_eq_true rfl)) dX12_worth_7 ⟨(Nat.le_of_ble_eq_true rfl), (Nat.le_of_ble_eq_true rfl)⟩) hP hD hK hS hA [0, 1, 2, 3, 4, 5, 6, 7, 8, 9, 10, 11, 12, 13, 14, 15] [] rfl rfl (by decide) (by decide) (fun r7 _ H locs hw hP hD _ hS => ?_)
  obtain ⟨hw, br7⟩ := hw
  obtain rfl := hw.symm
  have hP : va_P (dC, dI) vwCl ((a0, .inr (9, [.int 0, .int m_t.2.1, .int m_t.2.2, .ref a4, g8, g9, g10, g11, g12, g13, g14, g15, g16, g17, g18, g19, g20, g21, g22, g23, g24, g25, g26, g27, g28, g29, g30, g31, g32, g33])) :: bX11 a4 uq kq q_q []) H := hP
  have hD : va_D A ((a0, .inr (9, [.int 0, .int m_t.2.1, .int m_t.2.2, .ref a4, g8, g9, g10, g11, g12, g13, g14, g15, g16, g17, g18, g19, g20, g21, g22, g23, g24, g25, g26, g27, g28, g29, g30, g31, g32, g33])) :: bX11 a4 uq kq q_q []) := hD
  refine lv_if_ne (tgt := 19) hx hb dX12_worth_10 (by decide) (fun c10 => ?_) (fun c10 => ?_)
  · have h := (if_neg c10).symm.trans h
    refine lv_iload_n hx hb dX12_worth_19 rfl (lv_at hl 2 rfl) ?_
    refine lv_iconst (v := 0) hx hb dX12_worth_20 (by decide) ?_
    refine lv_sipush (v := 999) hx hb dX12_worth_21 (by decide) ?_
    obtain ⟨o24, eo24⟩ : ∃ o, o = f_X12_in k2 (0 : Int32) (999 : Int32) := ⟨_, rfl⟩
    have h := nm_of h o24 eo24
    refine cl_i (wc := []) (wr := ((a0, .inr (9, [.int 0, .int m_t.2.1, .int m_t.2.2, .ref a4, g8, g9, g10, g11, g12, g13, g14, g15, g16, g17, g18, g19, g20, g21, g22, g23, g24, g25, g26, g27, g28, g29, g30, g31, g32, g33])) :: bX11 a4 uq kq q_q [])) (va_runS (As := [.int k2, .int 0, .int 999]) (rest := []) ⟨hx, hb, hml, hown, hts⟩ (kfX12_in l dC dI k2 (0 : Int32) (999 : Int32) H.size o24 eo24.symm) (va_cwS 3 hts gfX12_worth_1 rfl rfl rfl (by decide +kernel) ⟨(Nat.le_of_ble_eq_true rfl), (Nat.le_of_ble_eq_true rfl)⟩) (PS (hP.sub (ws' := []) [] rfl) (hK.sub (tys' := ([])) [] rfl) (hD.sub (ws' := []) [] (by decide) rfl) hN) rfl rfl hl.1 rfl (lv_room (Nat.le_of_ble_eq_true rfl)) dX12_worth_24 ⟨(Nat.le_of_ble_eq_true rfl), (Nat.le_of_ble_eq_true rfl)⟩) hP hD hK hS hA [] [0, 1, 2, 3, 4, 5, 6, 7, 8, 9, 10, 11, 12, 13, 14, 15] rfl rfl (by decide) (by decide) (fun r24 _ H locs hw hP hD _ hS => ?_)
    obtain ⟨hw, br24⟩ := hw
    obtain rfl := hw.symm
    have hP : va_P (dC, dI) vwCl ((a0, .inr (9, [.int 0, .int m_t.2.1, .int m_t.2.2, .ref a4, g8, g9, g10, g11, g12, g13, g14, g15, g16, g17, g18, g19, g20, g21, g22, g23, g24, g25, g26, g27, g28, g29, g30, g31, g32, g33])) :: bX11 a4 uq kq q_q []) H := hP
    have hD : va_D A ((a0, .inr (9, [.int 0, .int m_t.2.1, .int m_t.2.2, .ref a4, g8, g9, g10, g11, g12, g13, g14, g15, g16, g17, g18, g19, g20, g21, g22, g23, g24, g25, g26, g27, g28, g29, g30, g31, g32, g33])) :: bX11 a4 uq kq q_q []) := hD
    have J55 : ∀ (H : Heap) (locs : List Loc) (ls : Array Slot), f_X12_worth_J55 m_t = some out → va_P (dC, dI) vwCl ((a0, .inr (9, [.int 0, .int m_t.2.1, .int m_t.2.2, .ref a4, g8, g9, g10, g11, g12, g13, g14, g15, g16, g17, g18, g19, g20, g21, g22, g23, g24, g25, g26, g27, g28, g29, g30, g31, g32, g33])) :: bX11 a4 uq kq q_q []) H → va_D A ((a0, .inr (9, [.int 0, .int m_t.2.1, .int m_t.2.2, .ref a4, g8, g9, g10, g11, g12, g13, g14, g15, g16, g17, g18, g19, g20, g21, g22, g23, g24, g25, g26, g27, g28, g29, g30, g31, g32, g33])) :: bX11 a4 uq kq q_q []) → va_S A s.heap H locs → lv_has ls 4 [(0, .ref a0)] → W p l e (headSpec vfX12_worth { frames := 1, cells := 0, slots := 0, locals := 24 }).room s m ([.ref a0, .int k1, .int k2, .int k3]).toArray below meth c H locs 0 0 QQ (F0 m 55 ls []) := by
      intro  H locs ls h  hP hD hS hl
      rw [f_X12_worth_J55] at h
      refine lv_aload_n hx hb dX12_worth_55 rfl (lv_at hl 0 rfl) ?_
      refine lv_iconst (v := 2) hx hb dX12_worth_56 (by decide) ?_
      obtain ⟨o57, eo57⟩ : ∃ o, o = f_X12_refused (2 : Int32) ((0 : Int32), m_t.2) := ⟨_, rfl⟩
      have h := nm_of h o57 eo57
      refine cl_i (wc := ([(a0, .inr (9, [.int 0, .int m_t.2.1, .int m_t.2.2, .ref a4, g8, g9, g10, g11, g12, g13, g14, g15, g16, g17, g18, g19, g20, g21, g22, g23, g24, g25, g26, g27, g28, g29, g30, g31, g32, g33]))])) (wr := (bX11 a4 uq kq q_q [])) (va_runV (As := [.int 2]) (rest := []) ⟨hx, hb, hml, hown, hts⟩ (kfX12_refused l dC dI a0 (2 : Int32) ((0 : Int32), m_t.2) (.ref a4) (g8) (g9) (g10) (g11) (g12) (g13) (g14) (g15) (g16) (g17) (g18) (g19) (g20) (g21) (g22) (g23) (g24) (g25) (g26) (g27) (g28) (g29) (g30) (g31) (g32) (g33) H.size o57 eo57.symm) (cwV 1 hts gfX12_worth_2 rfl rfl rfl (by decide +kernel) ⟨(Nat.le_of_ble_eq_true rfl), (Nat.le_of_ble_eq_true rfl)⟩) (PV (hP.sub (ws' := ([(a0, .inr (9, [.int 0, .int m_t.2.1, .int m_t.2.2, .ref a4, g8, g9, g10, g11, g12, g13, g14, g15, g16, g17, g18, g19, g20, g21, g22, g23, g24, g25, g26, g27, g28, g29, g30, g31, g32, g33]))])) [0] rfl) (hK.sub (tys' := ([])) [] rfl) (hD.sub (ws' := ([(a0, .inr (9, [.int 0, .int m_t.2.1, .int m_t.2.2, .ref a4, g8, g9, g10, g11, g12, g13, g14, g15, g16, g17, g18, g19, g20, g21, g22, g23, g24, g25, g26, g27, g28, g29, g30, g31, g32, g33]))])) [0] (by decide) rfl) hN 0 rfl rfl) rfl rfl hl.1 rfl (lv_room (Nat.le_of_ble_eq_true rfl)) dX12_worth_57 ⟨(Nat.le_of_ble_eq_true rfl), (Nat.le_of_ble_eq_true rfl)⟩) hP hD hK hS hA [0] [1, 2, 3, 4, 5, 6, 7, 8, 9, 10, 11, 12, 13, 14, 15] rfl rfl (by decide) (by decide) (fun r57 _ H locs hw hP hD _ hS => ?_)
      obtain rfl := hw
      have hP : va_P (dC, dI) vwCl (bX11 a4 uq kq q_q ([(a0, .inr (9, [.int o57.1, .int o57.2.1, .int o57.2.2, .ref a4, g8, g9, g10, g11, g12, g13, g14, g15, g16, g17, g18, g19, g20, g21, g22, g23, g24, g25, g26, g27, g28, g29, g30, g31, g32, g33]))])) H := hP
      have hD : va_D A (bX11 a4 uq kq q_q ([(a0, .inr (9, [.int o57.1, .int o57.2.1, .int o57.2.2, .ref a4, g8, g9, g10, g11, g12, g13, g14, g15, g16, g17, g18, g19, g20, g21, g22, g23, g24, g25, g26, g27, g28, g29, g30, g31, g32, g33]))])) := hD
      obtain rfl := Option.some.inj h
      have hP9 := hP.sub (ws' := ((a0, .inr (9, [.int o57.1, .int o57.2.1, .int o57.2.2, .ref a4, g8, g9, g10, g11, g12, g13, g14, g15, g16, g17, g18, g19, g20, g21, g22, g23, g24, g25, g26, g27, g28, g29, g30, g31, g32, g33])) :: bX11 a4 uq kq q_q [])) [15, 0, 1, 2, 3, 4, 5, 6, 7, 8, 9, 10, 11, 12, 13, 14] rfl
      have hD9 := hD.sub (ws' := ((a0, .inr (9, [.int o57.1, .int o57.2.1, .int o57.2.2, .ref a4, g8, g9, g10, g11, g12, g13, g14, g15, g16, g17, g18, g19, g20, g21, g22, g23, g24, g25, g26, g27, g28, g29, g30, g31, g32, g33])) :: bX11 a4 uq kq q_q [])) [15, 0, 1, 2, 3, 4, 5, 6, 7, 8, 9, 10, 11, 12, 13, 14] (by decide) rfl
      have hK9 := hK.sub (tys' := []) [] rfl
      rw [hQQ]
      exact W.iret (v := (-1 : Int32)) hx hb hr (fun t ht hW => ⟨⟨(-1 : Int32), (), rfl, rfl, by rw [ht]; exact hP9, va_K.moved hW.alike hK9, hD9⟩, hS.F ht⟩) hS.2.2 dX12_worth_60
    refine lv_if_eq (tgt := 55) hx hb dX12_worth_27 (by decide) (fun c27 => ?_) (fun c27 => ?_)
    · have h := (if_pos c27).symm.trans h
      exact J55  H _ ls h  hP hD hS (lv_sub hl [0] rfl)
    · have h := (if_neg c27).symm.trans h
      refine lv_iload_n hx hb dX12_worth_30 rfl (lv_at hl 3 rfl) ?_
      refine lv_iload_n hx hb dX12_worth_31 rfl (lv_at hl 2 rfl) ?_
      refine lv_sipush (v := 999) hx hb dX12_worth_32 (by decide) ?_
      obtain ⟨o35, eo35⟩ : ∃ o, o = f_X12_in k3 k2 (999 : Int32) := ⟨_, rfl⟩
      have h := nm_of h o35 eo35
      refine cl_i (wc := []) (wr := ((a0, .inr (9, [.int 0, .int m_t.2.1, .int m_t.2.2, .ref a4, g8, g9, g10, g11, g12, g13, g14, g15, g16, g17, g18, g19, g20, g21, g22, g23, g24, g25, g26, g27, g28, g29, g30, g31, g32, g33])) :: bX11 a4 uq kq q_q [])) (va_runS (As := [.int k3, .int k2, .int 999]) (rest := []) ⟨hx, hb, hml, hown, hts⟩ (kfX12_in l dC dI k3 k2 (999 : Int32) H.size o35 eo35.symm) (va_cwS 3 hts gfX12_worth_1 rfl rfl rfl (by decide +kernel) ⟨(Nat.le_of_ble_eq_true rfl), (Nat.le_of_ble_eq_true rfl)⟩) (PS (hP.sub (ws' := []) [] rfl) (hK.sub (tys' := ([])) [] rfl) (hD.sub (ws' := []) [] (by decide) rfl) hN) rfl rfl hl.1 rfl (lv_room (Nat.le_of_ble_eq_true rfl)) dX12_worth_35 ⟨(Nat.le_of_ble_eq_true rfl), (Nat.le_of_ble_eq_true rfl)⟩) hP hD hK hS hA [] [0, 1, 2, 3, 4, 5, 6, 7, 8, 9, 10, 11, 12, 13, 14, 15] rfl rfl (by decide) (by decide) (fun r35 _ H locs hw hP hD _ hS => ?_)
      obtain ⟨hw, br35⟩ := hw
      obtain rfl := hw.symm
      have hP : va_P (dC, dI) vwCl ((a0, .inr (9, [.int 0, .int m_t.2.1, .int m_t.2.2, .ref a4, g8, g9, g10, g11, g12, g13, g14, g15, g16, g17, g18, g19, g20, g21, g22, g23, g24, g25, g26, g27, g28, g29, g30, g31, g32, g33])) :: bX11 a4 uq kq q_q []) H := hP
      have hD : va_D A ((a0, .inr (9, [.int 0, .int m_t.2.1, .int m_t.2.2, .ref a4, g8, g9, g10, g11, g12, g13, g14, g15, g16, g17, g18, g19, g20, g21, g22, g23, g24, g25, g26, g27, g28, g29, g30, g31, g32, g33])) :: bX11 a4 uq kq q_q []) := hD
      refine lv_if_eq (tgt := 55) hx hb dX12_worth_38 (by decide) (fun c38 => ?_) (fun c38 => ?_)
      · have h := (if_pos c38).symm.trans h
        exact J55  H _ ls h  hP hD hS (lv_sub hl [0] rfl)
      · have h := (if_neg c38).symm.trans h
        refine lv_aload_n hx hb dX12_worth_41 rfl (lv_at hl 0 rfl) ?_
        refine lv_aload_n hx hb dX12_worth_42 rfl (lv_at hl 0 rfl) ?_
        refine lv_iload_n hx hb dX12_worth_43 rfl (lv_at hl 1 rfl) ?_
        refine lv_iload_n hx hb dX12_worth_44 rfl (lv_at hl 2 rfl) ?_
        refine lv_iload_n hx hb dX12_worth_45 rfl (lv_at hl 3 rfl) ?_
        obtain ⟨o46, eo46, h⟩ := bd_of h
        refine cl_i (wc := ((a0, .inr (9, [.int 0, .int m_t.2.1, .int m_t.2.2, .ref a4, g8, g9, g10, g11, g12, g13, g14, g15, g16, g17, g18, g19, g20, g21, g22, g23, g24, g25, g26, g27, g28, g29, g30, g31, g32, g33])) :: bX11 a4 uq kq q_q [])) (wr := []) (va_runV (As := [.int k1, .int k2, .int k3]) (rest := [.ref a0]) ⟨hx, hb, hml, hown, hts⟩ (kfX12_keeps l dC dI a0 k1 k2 k3 a4 uq kq (.int 0) (.int m_t.2.1) (.int m_t.2.2) (g8) (g9) (g10) (g11) (g12) (g13) (g14) (g15) (g16) (g17) (g18) (g19) (g20) (g21) (g22) (g23) (g24) (g25) (g26) (g27) (g28) (g29) (g30) (g31) (g32) (g33) q_q H.size o46 eo46) (cwV 3 hts gfX12_worth_3 rfl rfl rfl (by decide +kernel) ⟨(Nat.le_of_ble_eq_true rfl), (Nat.le_of_ble_eq_true rfl)⟩) (PV (hP.sub (ws' := ((a0, .inr (9, [.int 0, .int m_t.2.1, .int m_t.2.2, .ref a4, g8, g9, g10, g11, g12, g13, g14, g15, g16, g17, g18, g19, g20, g21, g22, g23, g24, g25, g26, g27, g28, g29, g30, g31, g32, g33])) :: bX11 a4 uq kq q_q [])) [0, 1, 2, 3, 4, 5, 6, 7, 8, 9, 10, 11, 12, 13, 14, 15] rfl) (hK.sub (tys' := (tX11 kq ([]))) [0, 1, 2, 3, 4, 5, 6, 7, 8, 9, 10, 11, 12, 13] rfl) (hD.sub (ws' := ((a0, .inr (9, [.int 0, .int m_t.2.1, .int m_t.2.2, .ref a4, g8, g9, g10, g11, g12, g13, g14, g15, g16, g17, g18, g19, g20, g21, g22, g23, g24, g25, g26, g27, g28, g29, g30, g31, g32, g33])) :: bX11 a4 uq kq q_q [])) [0, 1, 2, 3, 4, 5, 6, 7, 8, 9, 10, 11, 12, 13, 14, 15] (by decide) rfl) hN 0 rfl rfl) rfl rfl hl.1 rfl (lv_room (Nat.le_of_ble_eq_true rfl)) dX12_worth_46 ⟨(Nat.le_of_ble_eq_true rfl), (Nat.le_of_ble_eq_true rfl)⟩) hP hD hK hS hA [0, 1, 2, 3, 4, 5, 6, 7, 8, 9, 10, 11, 12, 13, 14, 15] [] rfl rfl (by decide) (by decide) (fun r46 _ H locs hw hP hD _ hS => ?_)
        obtain rfl := hw.symm
        have hP : va_P (dC, dI) vwCl ((a0, .inr (9, [.int 0, .int m_t.2.1, .int m_t.2.2, .ref a4, g8, g9, g10, g11, g12, g13, g14, g15, g16, g17, g18, g19, g20, g21, g22, g23, g24, g25, g26, g27, g28, g29, g30, g31, g32, g33])) :: bX11 a4 uq kq q_q []) H := hP
        have hD : va_D A ((a0, .inr (9, [.int 0, .int m_t.2.1, .int m_t.2.2, .ref a4, g8, g9, g10, g11, g12, g13, g14, g15, g16, g17, g18, g19, g20, g21, g22, g23, g24, g25, g26, g27, g28, g29, g30, g31, g32, g33])) :: bX11 a4 uq kq q_q []) := hD
        obtain ⟨o49, eo49⟩ : ∃ o, o = f_X12_good o46 ((0 : Int32), m_t.2) := ⟨_, rfl⟩
        have h := nm_of h o49 eo49
        refine cl_i (wc := ([(a0, .inr (9, [.int 0, .int m_t.2.1, .int m_t.2.2, .ref a4, g8, g9, g10, g11, g12, g13, g14, g15, g16, g17, g18, g19, g20, g21, g22, g23, g24, g25, g26, g27, g28, g29, g30, g31, g32, g33]))])) (wr := (bX11 a4 uq kq q_q [])) (va_runV (As := [.int o46]) (rest := []) ⟨hx, hb, hml, hown, hts⟩ (kfX12_good l dC dI a0 o46 ((0 : Int32), m_t.2) (.ref a4) (g8) (g9) (g10) (g11) (g12) (g13) (g14) (g15) (g16) (g17) (g18) (g19) (g20) (g21) (g22) (g23) (g24) (g25) (g26) (g27) (g28) (g29) (g30) (g31) (g32) (g33) H.size o49 eo49.symm) (cwV 1 hts gfX12_worth_4 rfl rfl rfl (by decide +kernel) ⟨(Nat.le_of_ble_eq_true rfl), (Nat.le_of_ble_eq_true rfl)⟩) (PV (hP.sub (ws' := ([(a0, .inr (9, [.int 0, .int m_t.2.1, .int m_t.2.2, .ref a4, g8, g9, g10, g11, g12, g13, g14, g15, g16, g17, g18, g19, g20, g21, g22, g23, g24, g25, g26, g27, g28, g29, g30, g31, g32, g33]))])) [0] rfl) (hK.sub (tys' := ([])) [] rfl) (hD.sub (ws' := ([(a0, .inr (9, [.int 0, .int m_t.2.1, .int m_t.2.2, .ref a4, g8, g9, g10, g11, g12, g13, g14, g15, g16, g17, g18, g19, g20, g21, g22, g23, g24, g25, g26, g27, g28, g29, g30, g31, g32, g33]))])) [0] (by decide) rfl) hN 0 rfl rfl) rfl rfl hl.1 rfl (lv_room (Nat.le_of_ble_eq_true rfl)) dX12_worth_49 ⟨(Nat.le_of_ble_eq_true rfl), (Nat.le_of_ble_eq_true rfl)⟩) hP hD hK hS hA [0] [1, 2, 3, 4, 5, 6, 7, 8, 9, 10, 11, 12, 13, 14, 15] rfl rfl (by decide) (by decide) (fun r49 _ H locs hw hP hD _ hS => ?_)
        obtain rfl := hw
        have hP : va_P (dC, dI) vwCl (bX11 a4 uq kq q_q ([(a0, .inr (9, [.int o49.2.1, .int o49.2.2.1, .int o49.2.2.2, .ref a4, g8, g9, g10, g11, g12, g13, g14, g15, g16, g17, g18, g19, g20, g21, g22, g23, g24, g25, g26, g27, g28, g29, g30, g31, g32, g33]))])) H := hP
        have hD : va_D A (bX11 a4 uq kq q_q ([(a0, .inr (9, [.int o49.2.1, .int o49.2.2.1, .int o49.2.2.2, .ref a4, g8, g9, g10, g11, g12, g13, g14, g15, g16, g17, g18, g19, g20, g21, g22, g23, g24, g25, g26, g27, g28, g29, g30, g31, g32, g33]))])) := hD
        refine lv_goto (tgt := 60) hx hb dX12_worth_52 (by decide) ?_
        obtain rfl := Option.some.inj h
        have hP9 := hP.sub (ws' := ((a0, .inr (9, [.int o49.2.1, .int o49.2.2.1, .int o49.2.2.2, .ref a4, g8, g9, g10, g11, g12, g13, g14, g15, g16, g17, g18, g19, g20, g21, g22, g23, g24, g25, g26, g27, g28, g29, g30, g31, g32, g33])) :: bX11 a4 uq kq q_q [])) [15, 0, 1, 2, 3, 4, 5, 6, 7, 8, 9, 10, 11, 12, 13, 14] rfl
        have hD9 := hD.sub (ws' := ((a0, .inr (9, [.int o49.2.1, .int o49.2.2.1, .int o49.2.2.2, .ref a4, g8, g9, g10, g11, g12, g13, g14, g15, g16, g17, g18, g19, g20, g21, g22, g23, g24, g25, g26, g27, g28, g29, g30, g31, g32, g33])) :: bX11 a4 uq kq q_q [])) [15, 0, 1, 2, 3, 4, 5, 6, 7, 8, 9, 10, 11, 12, 13, 14] (by decide) rfl
        have hK9 := hK.sub (tys' := []) [] rfl
        rw [hQQ]
        exact W.iret (v := o49.1) hx hb hr (fun t ht hW => ⟨⟨o49.1, (), rfl, rfl, by rw [ht]; exact hP9, va_K.moved hW.alike hK9, hD9⟩, hS.F ht⟩) hS.2.2 dX12_worth_60
  · have h := (if_pos c10).symm.trans h
    refine lv_aload_n hx hb dX12_worth_13 rfl (lv_at hl 0 rfl) ?_
    refine lv_iconst (v := 1) hx hb dX12_worth_14 (by decide) ?_
    obtain ⟨o15, eo15⟩ : ∃ o, o = f_X12_refused (1 : Int32) ((0 : Int32), m_t.2) := ⟨_, rfl⟩
    have h := nm_of h o15 eo15
    refine cl_i (wc := ([(a0, .inr (9, [.int 0, .int m_t.2.1, .int m_t.2.2, .ref a4, g8, g9, g10, g11, g12, g13, g14, g15, g16, g17, g18, g19, g20, g21, g22, g23, g24, g25, g26, g27, g28, g29, g30, g31, g32, g33]))])) (wr := (bX11 a4 uq kq q_q [])) (va_runV (As := [.int 1]) (rest := []) ⟨hx, hb, hml, hown, hts⟩ (kfX12_refused l dC dI a0 (1 : Int32) ((0 : Int32), m_t.2) (.ref a4) (g8) (g9) (g10) (g11) (g12) (g13) (g14) (g15) (g16) (g17) (g18) (g19) (g20) (g21) (g22) (g23) (g24) (g25) (g26) (g27) (g28) (g29) (g30) (g31) (g32) (g33) H.size o15 eo15.symm) (cwV 1 hts gfX12_worth_2 rfl rfl rfl (by decide +kernel) ⟨(Nat.le_of_ble_eq_true rfl), (Nat.le_of_ble_eq_true rfl)⟩) (PV (hP.sub (ws' := ([(a0, .inr (9, [.int 0, .int m_t.2.1, .int m_t.2.2, .ref a4, g8, g9, g10, g11, g12, g13, g14, g15, g16, g17, g18, g19, g20, g21, g22, g23, g24, g25, g26, g27, g28, g29, g30, g31, g32, g33]))])) [0] rfl) (hK.sub (tys' := ([])) [] rfl) (hD.sub (ws' := ([(a0, .inr (9, [.int 0, .int m_t.2.1, .int m_t.2.2, .ref a4, g8, g9, g10, g11, g12, g13, g14, g15, g16, g17, g18, g19, g20, g21, g22, g23, g24, g25, g26, g27, g28, g29, g30, g31, g32, g33]))])) [0] (by decide) rfl) hN 0 rfl rfl) rfl rfl hl.1 rfl (lv_room (Nat.le_of_ble_eq_true rfl)) dX12_worth_15 ⟨(Nat.le_of_ble_eq_true rfl), (Nat.le_of_ble_eq_true rfl)⟩) hP hD hK hS hA [0] [1, 2, 3, 4, 5, 6, 7, 8, 9, 10, 11, 12, 13, 14, 15] rfl rfl (by decide) (by decide) (fun r15 _ H locs hw hP hD _ hS => ?_)
    obtain rfl := hw
    have hP : va_P (dC, dI) vwCl (bX11 a4 uq kq q_q ([(a0, .inr (9, [.int o15.1, .int o15.2.1, .int o15.2.2, .ref a4, g8, g9, g10, g11, g12, g13, g14, g15, g16, g17, g18, g19, g20, g21, g22, g23, g24, g25, g26, g27, g28, g29, g30, g31, g32, g33]))])) H := hP
    have hD : va_D A (bX11 a4 uq kq q_q ([(a0, .inr (9, [.int o15.1, .int o15.2.1, .int o15.2.2, .ref a4, g8, g9, g10, g11, g12, g13, g14, g15, g16, g17, g18, g19, g20, g21, g22, g23, g24, g25, g26, g27, g28, g29, g30, g31, g32, g33]))])) := hD
    obtain rfl := Option.some.inj h
    have hP9 := hP.sub (ws' := ((a0, .inr (9, [.int o15.1, .int o15.2.1, .int o15.2.2, .ref a4, g8, g9, g10, g11, g12, g13, g14, g15, g16, g17, g18, g19, g20, g21, g22, g23, g24, g25, g26, g27, g28, g29, g30, g31, g32, g33])) :: bX11 a4 uq kq q_q [])) [15, 0, 1, 2, 3, 4, 5, 6, 7, 8, 9, 10, 11, 12, 13, 14] rfl
    have hD9 := hD.sub (ws' := ((a0, .inr (9, [.int o15.1, .int o15.2.1, .int o15.2.2, .ref a4, g8, g9, g10, g11, g12, g13, g14, g15, g16, g17, g18, g19, g20, g21, g22, g23, g24, g25, g26, g27, g28, g29, g30, g31, g32, g33])) :: bX11 a4 uq kq q_q [])) [15, 0, 1, 2, 3, 4, 5, 6, 7, 8, 9, 10, 11, 12, 13, 14] (by decide) rfl
    have hK9 := hK.sub (tys' := []) [] rfl
    rw [hQQ]
    exact W.iret (v := (-1 : Int32)) hx hb hr (fun t ht hW => ⟨⟨(-1 : Int32), (), rfl, rfl, by rw [ht]; exact hP9, va_K.moved hW.alike hK9, hD9⟩, hS.F ht⟩) hS.2.2 dX12_worth_18
theorem dX12_refusesLoad_0 : decode cX12_refusesLoad 0 = .ok (.aload_n 0, 1) := by decide +kernel
theorem dX12_refusesLoad_1 : decode cX12_refusesLoad 1 = .ok (.getfield 299, 3) := by decide +kernel
theorem dX12_refusesLoad_11 : decode cX12_refusesLoad 11 = .ok (.iload_n 1, 1) := by decide +kernel
theorem dX12_refusesLoad_12 : decode cX12_refusesLoad 12 = .ok (.iconst 0, 1) := by decide +kernel
theorem dX12_refusesLoad_13 : decode cX12_refusesLoad 13 = .ok (.bipush 6, 2) := by decide +kernel
theorem dX12_refusesLoad_15 : decode cX12_refusesLoad 15 = .ok (.invokestatic 115, 3) := by decide +kernel
theorem dX12_refusesLoad_18 : decode cX12_refusesLoad 18 = .ok (.ifCond .eq 7, 3) := by decide +kernel
theorem dX12_refusesLoad_21 : decode cX12_refusesLoad 21 = .ok (.iconst 0, 1) := by decide +kernel
theorem dX12_refusesLoad_22 : decode cX12_refusesLoad 22 = .ok (.goto 4, 3) := by decide +kernel
theorem dX12_refusesLoad_25 : decode cX12_refusesLoad 25 = .ok (.iconst 2, 1) := by decide +kernel
theorem dX12_refusesLoad_26 : decode cX12_refusesLoad 26 = .ok (.ireturn, 1) := by decide +kernel
theorem dX12_refusesLoad_4 : decode cX12_refusesLoad 4 = .ok (.ifnonnull 7, 3) := by decide +kernel
def vfX12_refusesLoad : List Cond := List.cons (.code yX12_refusesLoad cX12_refusesLoad 2 (some .int)) (apW [.fieldLink RX12 299 "HookPierModel" "pier" "LHookPierModel$Pier;", .methodLink RX12 115 yX12_in, .static yX12_in, .initialized RX12] (apW wsX120 (vfX12_in)))
theorem ifX12_refusesLoad_X12 : ∀ w ∈ wsX120, w ∈ vfX12_refusesLoad := fun _ h => (List.mem_cons_of_mem _ (List.mem_append_right _ (List.mem_append_left _ h)))
theorem qfX12_refusesLoad : Good vfX12_refusesLoad := gd_cons (by decide +kernel) (gd_app (gd_dec (by decide +kernel) : Good [.fieldLink RX12 299 "HookPierModel" "pier" "LHookPierModel$Pier;", .methodLink RX12 115 yX12_in, .static yX12_in, .initialized RX12]) (gd_app qsX12 qfX12_in))
theorem gfX12_refusesLoad_0 : GoodIn vfX12_refusesLoad (va_wsS RX12 115 yX12_in vfX12_in) := goodIn_app (goodIn_r [.methodLink RX12 115 yX12_in, .static yX12_in, .initialized RX12] [2, 3, 4] rfl (by decide +kernel)) (goodIn_m (fun _ h => (List.mem_cons_of_mem _ (List.mem_append_right _ (List.mem_append_right _ h)))) qfX12_in)
set_option maxHeartbeats 2000000 in
set_option maxRecDepth 100000 in
theorem kfX12_refusesLoad (l : Launch) (dC : Nat → ClassId) (dI : Nat → Nat → Nat) (a0 : Nat) (k1 : Int32) (g2 : Value) (g3 : Value) (g4 : Value) (a5 : Nat) (g6 : Value) (g7 : Value) (g8 : Value) (g9 : Value) (g10 : Value) (g11 : Value) (g12 : Value) (g13 : Value) (g14 : Value) (g15 : Value) (g16 : Value) (g17 : Value) (g18 : Value) (g19 : Value) (g20 : Value) (g21 : Value) (g22 : Value) (g23 : Value) (g24 : Value) (g25 : Value) (g26 : Value) (g27 : Value) (g28 : Value) (g29 : Value) (g30 : Value) (g31 : Value) (sz : Nat) (out : Int32) (h : f_X12_refusesLoad k1 = out) : Met l yX12_refusesLoad vfX12_refusesLoad ({ frames := 1, cells := 0, slots := 0, locals := 22 }) (PC (dC, dI) [.ref a0, .int k1] sz ([(a0, .inr (9, [g2, g3, g4, .ref a5, g6, g7, g8, g9, g10, g11, g12, g13, g14, g15, g16, g17, g18, g19, g20, g21, g22, g23, g24, g25, g26, g27, g28, g29, g30, g31]))]) ([])) (va_Qi (S := Unit) (fun (r : Int32) _ => r = out) (fun _ t => BC (dC, dI) (va_A ([(a0, .inr (9, [g2, g3, g4, .ref a5, g6, g7, g8, g9, g10, g11, g12, g13, g14, g15, g16, g17, g18, g19, g20, g21, g22, g23, g24, g25, g26, g27, g28, g29, g30, g31]))]) sz) ([(a0, .inr (9, [g2, g3, g4, .ref a5, g6, g7, g8, g9, g10, g11, g12, g13, g14, g15, g16, g17, g18, g19, g20, g21, g22, g23, g24, g25, g26, g27, g28, g29, g30, g31]))]) [] t) (va_A ([(a0, .inr (9, [g2, g3, g4, .ref a5, g6, g7, g8, g9, g10, g11, g12, g13, g14, g15, g16, g17, g18, g19, g20, g21, g22, g23, g24, g25, g26, g27, g28, g29, g30, g31]))]) sz)) 0 0 (va_A ([(a0, .inr (9, [g2, g3, g4, .ref a5, g6, g7, g8, g9, g10, g11, g12, g13, g14, g15, g16, g17, g18, g19, g20, g21, g22, g23, g24, g25, g26, g27, g28, g29, g30, g31]))]) sz) := by
  refine Met.ofW (cc := cX12_refusesLoad) (maxL := 2) (ret := (some .int)) (by decide) rfl ?_
  intro p e s m args below meth c s₁ B0 hml hv
  obtain ⟨rfl, hsz, hP, hK, hD0, hN⟩ := hv
  have hx := B0.exec
  have hb := B0.bytes
  have hr := B0.returns
  have hts := atoms_spec (ws := vfX12_refusesLoad) B0.pre
  have hown : s.vm.findClass RX12 = some m.cls := findClass_of_methodNamed B0.named
  have hlocks := B0.notSynchronized
  subst hsz
  have hD := hD0.self (sz := s.heap.size)
  generalize hAe : va_A ([(a0, .inr (9, [g2, g3, g4, .ref a5, g6, g7, g8, g9, g10, g11, g12, g13, g14, g15, g16, g17, g18, g19, g20, g21, g22, g23, g24, g25, g26, g27, g28, g29, g30, g31]))]) s.heap.size = A at hD ⊢
  have hA : ∀ q : Nat, s.heap.size ≤ q → A q := fun q h => by rw [← hAe]; exact Or.inr h
  have hS : va_S A s.heap s.heap [] := va_S.rf
  have hP : va_P (dC, dI) vwCl ([(a0, .inr (9, [g2, g3, g4, .ref a5, g6, g7, g8, g9, g10, g11, g12, g13, g14, g15, g16, g17, g18, g19, g20, g21, g22, g23, g24, g25, g26, g27, g28, g29, g30, g31]))]) s.heap := hP
  have hl := lv_entry ([.ref a0, .int k1]) (n := 2) (Nat.le_of_ble_eq_true rfl)
  rw [lg_entry_eq]
  generalize (lg_sl ([.ref a0, .int k1]) ++ List.replicate (2 - (lg_sl ([.ref a0, .int k1])).length) Slot.unset).toArray = ls at hl ⊢
  have hl : lv_has ls 2 [(0, .ref a0), (1, .int k1)] := hl
  refine W_q (fun QQ hQQ => ?_)
  rw [f_X12_refusesLoad] at h
  refine lv_aload_n hx hb dX12_refusesLoad_0 rfl (lv_at hl 0 rfl) ?_
  refine va_get (D := (dC, dI)) (ci := 9) (v := .ref a5) (C := RX12) (T := TX12) (N := 30) hx hb hts ifX12_refusesLoad_X12 hown hK hP 0 rfl rfl 3 (by decide) (hts (.fieldLink RX12 299 "HookPierModel" "pier" "LHookPierModel$Pier;") (List.mem_of_getElem? (i := 1) rfl)) (fun _ h9 => h9) rfl dX12_refusesLoad_1 ?_
  refine lv_ifnonnull (tgt := 11) hx hb dX12_refusesLoad_4 (by decide) ?_
  refine lv_iload_n hx hb dX12_refusesLoad_11 rfl (lv_at hl 1 rfl) ?_
  refine lv_iconst (v := 0) hx hb dX12_refusesLoad_12 (by decide) ?_
  refine lv_bipush (v := 6) hx hb dX12_refusesLoad_13 (by decide) ?_
  obtain ⟨o15, eo15⟩ : ∃ o, o = f_X12_in k1 (0 : Int32) (6 : Int32) := ⟨_, rfl⟩
  have h := nm_of h o15 eo15
  refine cl_i (wc := []) (wr := ([(a0, .inr (9, [g2, g3, g4, .ref a5, g6, g7, g8, g9, g10, g11, g12, g13, g14, g15, g16, g17, g18, g19, g20, g21, g22, g23, g24, g25, g26, g27, g28, g29, g30, g31]))])) (va_runS (As := [.int k1, .int 0, .int 6]) (rest := []) ⟨hx, hb, hml, hown, hts⟩ (kfX12_in l dC dI k1 (0 : Int32) (6 : Int32) s.heap.size o15 eo15.symm) (va_cwS 3 hts gfX12_refusesLoad_0 rfl rfl rfl (by decide +kernel) ⟨(Nat.le_of_ble_eq_true rfl), (Nat.le_of_ble_eq_true rfl)⟩) (PS (hP.sub (ws' := []) [] rfl) (hK.sub (tys' := ([])) [] rfl) (hD.sub (ws' := []) [] (by decide) rfl) hN) rfl rfl hl.1 rfl (lv_room (Nat.le_of_ble_eq_true rfl)) dX12_refusesLoad_15 ⟨(Nat.le_of_ble_eq_true rfl), (Nat.le_of_ble_eq_true rfl)⟩) hP hD hK hS hA [] [0] rfl rfl (by decide) (by decide) (fun r15 _ H locs hw hP hD _ hS => ?_)
  obtain ⟨hw, br15⟩ := hw
  obtain rfl := hw.symm
  have hP : va_P (dC, dI) vwCl ([(a0, .inr (9, [g2, g3, g4, .ref a5, g6, g7, g8, g9, g10, g11, g12, g13, g14, g15, g16, g17, g18, g19, g20, g21, g22, g23, g24, g25, g26, g27, g28, g29, g30, g31]))]) H := hP
  have hD : va_D A ([(a0, .inr (9, [g2, g3, g4, .ref a5, g6, g7, g8, g9, g10, g11, g12, g13, g14, g15, g16, g17, g18, g19, g20, g21, g22, g23, g24, g25, g26, g27, g28, g29, g30, g31]))]) := hD
  refine lv_if_eq (tgt := 25) hx hb dX12_refusesLoad_18 (by decide) (fun c18 => ?_) (fun c18 => ?_)
  · have h := (if_pos c18).symm.trans h
    refine lv_iconst (v := 2) hx hb dX12_refusesLoad_25 (by decide) ?_
    obtain rfl := h
    have hP9 := hP.sub (ws' := ([(a0, .inr (9, [g2, g3, g4, .ref a5, g6, g7, g8, g9, g10, g11, g12, g13, g14, g15, g16, g17, g18, g19, g20, g21, g22, g23, g24, g25, g26, g27, g28, g29, g30, g31]))])) [0] rfl
    have hD9 := hD.sub (ws' := ([(a0, .inr (9, [g2, g3, g4, .ref a5, g6, g7, g8, g9, g10, g11, g12, g13, g14, g15, g16, g17, g18, g19, g20, g21, g22, g23, g24, g25, g26, g27, g28, g29, g30, g31]))])) [0] (by decide) rfl
    have hK9 := hK.sub (tys' := []) [] rfl
    rw [hQQ]
    exact W.iret (v := (2 : Int32)) hx hb hr (fun t ht hW => ⟨⟨(2 : Int32), (), rfl, rfl, by rw [ht]; exact hP9, va_K.moved hW.alike hK9, hD9⟩, hS.F ht⟩) hS.2.2 dX12_refusesLoad_26
  · have h := (if_neg c18).symm.trans h
    refine lv_iconst (v := 0) hx hb dX12_refusesLoad_21 (by decide) ?_
    refine lv_goto (tgt := 26) hx hb dX12_refusesLoad_22 (by decide) ?_
    obtain rfl := h
    have hP9 := hP.sub (ws' := ([(a0, .inr (9, [g2, g3, g4, .ref a5, g6, g7, g8, g9, g10, g11, g12, g13, g14, g15, g16, g17, g18, g19, g20, g21, g22, g23, g24, g25, g26, g27, g28, g29, g30, g31]))])) [0] rfl
    have hD9 := hD.sub (ws' := ([(a0, .inr (9, [g2, g3, g4, .ref a5, g6, g7, g8, g9, g10, g11, g12, g13, g14, g15, g16, g17, g18, g19, g20, g21, g22, g23, g24, g25, g26, g27, g28, g29, g30, g31]))])) [0] (by decide) rfl
    have hK9 := hK.sub (tys' := []) [] rfl
    rw [hQQ]
    exact W.iret (v := (0 : Int32)) hx hb hr (fun t ht hW => ⟨⟨(0 : Int32), (), rfl, rfl, by rw [ht]; exact hP9, va_K.moved hW.alike hK9, hD9⟩, hS.F ht⟩) hS.2.2 dX12_refusesLoad_26
theorem dX12_loads_0 : decode cX12_loads 0 = .ok (.aload_n 0, 1) := by decide +kernel
theorem dX12_loads_1 : decode cX12_loads 1 = .ok (.iconst 0, 1) := by decide +kernel
theorem dX12_loads_10 : decode cX12_loads 10 = .ok (.iconst 1, 1) := by decide +kernel
theorem dX12_loads_100 : decode cX12_loads 100 = .ok (.aload_n 0, 1) := by decide +kernel
theorem dX12_loads_101 : decode cX12_loads 101 = .ok (.iload 5, 2) := by decide +kernel
theorem dX12_loads_103 : decode cX12_loads 103 = .ok (.invokevirtual 442, 3) := by decide +kernel
theorem dX12_loads_106 : decode cX12_loads 106 = .ok (.goto 4, 3) := by decide +kernel
theorem dX12_loads_109 : decode cX12_loads 109 = .ok (.iconst 0, 1) := by decide +kernel
theorem dX12_loads_11 : decode cX12_loads 11 = .ok (.istore_n 2, 1) := by decide +kernel
theorem dX12_loads_110 : decode cX12_loads 110 = .ok (.iadd, 1) := by decide +kernel
theorem dX12_loads_111 : decode cX12_loads 111 = .ok (.istore_n 3, 1) := by decide +kernel
theorem dX12_loads_112 : decode cX12_loads 112 = .ok (.iinc 5 1, 3) := by decide +kernel
theorem dX12_loads_115 : decode cX12_loads 115 = .ok (.goto (-70), 3) := by decide +kernel
theorem dX12_loads_118 : decode cX12_loads 118 = .ok (.iload 4, 2) := by decide +kernel
theorem dX12_loads_12 : decode cX12_loads 12 = .ok (.iload_n 2, 1) := by decide +kernel
theorem dX12_loads_120 : decode cX12_loads 120 = .ok (.ifCond .eq 46, 3) := by decide +kernel
theorem dX12_loads_123 : decode cX12_loads 123 = .ok (.iload_n 3, 1) := by decide +kernel
theorem dX12_loads_124 : decode cX12_loads 124 = .ok (.aload_n 0, 1) := by decide +kernel
theorem dX12_loads_125 : decode cX12_loads 125 = .ok (.getfield 439, 3) := by decide +kernel
theorem dX12_loads_128 : decode cX12_loads 128 = .ok (.if_icmp .lt 38, 3) := by decide +kernel
theorem dX12_loads_13 : decode cX12_loads 13 = .ok (.iconst 1, 1) := by decide +kernel
theorem dX12_loads_131 : decode cX12_loads 131 = .ok (.iload_n 3, 1) := by decide +kernel
theorem dX12_loads_132 : decode cX12_loads 132 = .ok (.aload_n 0, 1) := by decide +kernel
theorem dX12_loads_133 : decode cX12_loads 133 = .ok (.getfield 439, 3) := by decide +kernel
theorem dX12_loads_136 : decode cX12_loads 136 = .ok (.if_icmp .ne 20, 3) := by decide +kernel
theorem dX12_loads_139 : decode cX12_loads 139 = .ok (.iload_n 2, 1) := by decide +kernel
theorem dX12_loads_14 : decode cX12_loads 14 = .ok (.aload_n 0, 1) := by decide +kernel
theorem dX12_loads_140 : decode cX12_loads 140 = .ok (.invokestatic 411, 3) := by decide +kernel
theorem dX12_loads_143 : decode cX12_loads 143 = .ok (.aload_n 0, 1) := by decide +kernel
theorem dX12_loads_144 : decode cX12_loads 144 = .ok (.getfield 436, 3) := by decide +kernel
theorem dX12_loads_147 : decode cX12_loads 147 = .ok (.invokestatic 411, 3) := by decide +kernel
theorem dX12_loads_15 : decode cX12_loads 15 = .ok (.getfield 299, 3) := by decide +kernel
theorem dX12_loads_150 : decode cX12_loads 150 = .ok (.if_icmp .lt 6, 3) := by decide +kernel
theorem dX12_loads_153 : decode cX12_loads 153 = .ok (.goto 13, 3) := by decide +kernel
theorem dX12_loads_156 : decode cX12_loads 156 = .ok (.aload_n 0, 1) := by decide +kernel
theorem dX12_loads_157 : decode cX12_loads 157 = .ok (.iload_n 2, 1) := by decide +kernel
theorem dX12_loads_158 : decode cX12_loads 158 = .ok (.putfield 436, 3) := by decide +kernel
theorem dX12_loads_161 : decode cX12_loads 161 = .ok (.aload_n 0, 1) := by decide +kernel
theorem dX12_loads_162 : decode cX12_loads 162 = .ok (.iload_n 3, 1) := by decide +kernel
theorem dX12_loads_163 : decode cX12_loads 163 = .ok (.putfield 439, 3) := by decide +kernel
theorem dX12_loads_166 : decode cX12_loads 166 = .ok (.iinc 2 1, 3) := by decide +kernel
theorem dX12_loads_169 : decode cX12_loads 169 = .ok (.goto (-157), 3) := by decide +kernel
theorem dX12_loads_172 : decode cX12_loads 172 = .ok (.return_, 1) := by decide +kernel
theorem dX12_loads_18 : decode cX12_loads 18 = .ok (.getfield 231, 3) := by decide +kernel
theorem dX12_loads_2 : decode cX12_loads 2 = .ok (.putfield 436, 3) := by decide +kernel
theorem dX12_loads_21 : decode cX12_loads 21 = .ok (.ishl, 1) := by decide +kernel
theorem dX12_loads_22 : decode cX12_loads 22 = .ok (.if_icmp .ge 150, 3) := by decide +kernel
theorem dX12_loads_25 : decode cX12_loads 25 = .ok (.iconst 0, 1) := by decide +kernel
theorem dX12_loads_26 : decode cX12_loads 26 = .ok (.istore_n 3, 1) := by decide +kernel
theorem dX12_loads_27 : decode cX12_loads 27 = .ok (.iload_n 2, 1) := by decide +kernel
theorem dX12_loads_28 : decode cX12_loads 28 = .ok (.invokestatic 411, 3) := by decide +kernel
theorem dX12_loads_31 : decode cX12_loads 31 = .ok (.iload_n 1, 1) := by decide +kernel
theorem dX12_loads_32 : decode cX12_loads 32 = .ok (.if_icmp .gt 7, 3) := by decide +kernel
theorem dX12_loads_35 : decode cX12_loads 35 = .ok (.iconst 1, 1) := by decide +kernel
theorem dX12_loads_36 : decode cX12_loads 36 = .ok (.goto 4, 3) := by decide +kernel
theorem dX12_loads_39 : decode cX12_loads 39 = .ok (.iconst 0, 1) := by decide +kernel
theorem dX12_loads_40 : decode cX12_loads 40 = .ok (.istore 4, 2) := by decide +kernel
theorem dX12_loads_42 : decode cX12_loads 42 = .ok (.iconst 0, 1) := by decide +kernel
theorem dX12_loads_43 : decode cX12_loads 43 = .ok (.istore 5, 2) := by decide +kernel
theorem dX12_loads_45 : decode cX12_loads 45 = .ok (.iload 5, 2) := by decide +kernel
theorem dX12_loads_47 : decode cX12_loads 47 = .ok (.aload_n 0, 1) := by decide +kernel
theorem dX12_loads_48 : decode cX12_loads 48 = .ok (.getfield 299, 3) := by decide +kernel
theorem dX12_loads_5 : decode cX12_loads 5 = .ok (.aload_n 0, 1) := by decide +kernel
theorem dX12_loads_51 : decode cX12_loads 51 = .ok (.getfield 231, 3) := by decide +kernel
theorem dX12_loads_54 : decode cX12_loads 54 = .ok (.if_icmp .ge 64, 3) := by decide +kernel
theorem dX12_loads_57 : decode cX12_loads 57 = .ok (.iload 4, 2) := by decide +kernel
theorem dX12_loads_59 : decode cX12_loads 59 = .ok (.ifCond .eq 59, 3) := by decide +kernel
theorem dX12_loads_6 : decode cX12_loads 6 = .ok (.iconst 0, 1) := by decide +kernel
theorem dX12_loads_62 : decode cX12_loads 62 = .ok (.iload_n 2, 1) := by decide +kernel
theorem dX12_loads_63 : decode cX12_loads 63 = .ok (.iload 5, 2) := by decide +kernel
theorem dX12_loads_65 : decode cX12_loads 65 = .ok (.invokestatic 390, 3) := by decide +kernel
theorem dX12_loads_68 : decode cX12_loads 68 = .ok (.ifCond .ne 6, 3) := by decide +kernel
theorem dX12_loads_7 : decode cX12_loads 7 = .ok (.putfield 439, 3) := by decide +kernel
theorem dX12_loads_71 : decode cX12_loads 71 = .ok (.goto 41, 3) := by decide +kernel
theorem dX12_loads_74 : decode cX12_loads 74 = .ok (.aload_n 0, 1) := by decide +kernel
theorem dX12_loads_75 : decode cX12_loads 75 = .ok (.getfield 17, 3) := by decide +kernel
theorem dX12_loads_78 : decode cX12_loads 78 = .ok (.iconst 0, 1) := by decide +kernel
theorem dX12_loads_79 : decode cX12_loads 79 = .ok (.iload 5, 2) := by decide +kernel
theorem dX12_loads_81 : decode cX12_loads 81 = .ok (.iadd, 1) := by decide +kernel
theorem dX12_loads_82 : decode cX12_loads 82 = .ok (.iaload, 1) := by decide +kernel
theorem dX12_loads_83 : decode cX12_loads 83 = .ok (.iconst 1, 1) := by decide +kernel
theorem dX12_loads_84 : decode cX12_loads 84 = .ok (.if_icmp .ne 7, 3) := by decide +kernel
theorem dX12_loads_87 : decode cX12_loads 87 = .ok (.iconst 1, 1) := by decide +kernel
theorem dX12_loads_88 : decode cX12_loads 88 = .ok (.goto 4, 3) := by decide +kernel
theorem dX12_loads_91 : decode cX12_loads 91 = .ok (.iconst 0, 1) := by decide +kernel
theorem dX12_loads_92 : decode cX12_loads 92 = .ok (.istore 4, 2) := by decide +kernel
theorem dX12_loads_94 : decode cX12_loads 94 = .ok (.iload_n 3, 1) := by decide +kernel
theorem dX12_loads_95 : decode cX12_loads 95 = .ok (.iload 4, 2) := by decide +kernel
theorem dX12_loads_97 : decode cX12_loads 97 = .ok (.ifCond .eq 12, 3) := by decide +kernel
def vfX12_loads : List Cond := List.cons (.code yX12_loads cX12_loads 6 none) (apW [.fieldLink RX12 436 "HookPierModel" "loaded" "I", .fieldLink RX12 439 "HookPierModel" "loadedWorth" "I", .fieldLink RX12 299 "HookPierModel" "pier" "LHookPierModel$Pier;", .methodLink RX12 411 yX12_bits, .static yX12_bits, .initialized RX12, .methodLink RX12 390 yX12_bit, .static yX12_bit, .fieldLink RX12 17 "HookPierModel" "v" "[I", .methodLink RX12 442 yX12_worthNow, .instanceMethod yX12_worthNow, .selects RX12 yX12_worthNow yX12_worthNow] (apW wsX120 (apW wsX110 (apW vfX12_bits (apW vfX12_bit (vfX12_worthNow))))))
theorem ifX12_loads_X12 : ∀ w ∈ wsX120, w ∈ vfX12_loads := fun _ h => (List.mem_cons_of_mem _ (List.mem_append_right _ (List.mem_append_left _ h)))
theorem ifX12_loads_X11 : ∀ w ∈ wsX110, w ∈ vfX12_loads := fun _ h => (List.mem_cons_of_mem _ (List.mem_append_right _ (List.mem_append_right _ (List.mem_append_left _ h))))
theorem qfX12_loads : Good vfX12_loads := gd_cons (by decide +kernel) (gd_app (gd_dec (by decide +kernel) : Good [.fieldLink RX12 436 "HookPierModel" "loaded" "I", .fieldLink RX12 439 "HookPierModel" "loadedWorth" "I", .fieldLink RX12 299 "HookPierModel" "pier" "LHookPierModel$Pier;", .methodLink RX12 411 yX12_bits, .static yX12_bits, .initialized RX12, .methodLink RX12 390 yX12_bit, .static yX12_bit, .fieldLink RX12 17 "HookPierModel" "v" "[I", .methodLink RX12 442 yX12_worthNow, .instanceMethod yX12_worthNow, .selects RX12 yX12_worthNow yX12_worthNow]) (gd_app qsX12 (gd_app qsX11 (gd_app qfX12_bits (gd_app qfX12_bit qfX12_worthNow)))))
theorem gfX12_loads_0 : GoodIn vfX12_loads (va_wsS RX12 411 yX12_bits vfX12_bits) := goodIn_app (goodIn_r [.methodLink RX12 411 yX12_bits, .static yX12_bits, .initialized RX12] [4, 5, 6] rfl (by decide +kernel)) (goodIn_m (fun _ h => (List.mem_cons_of_mem _ (List.mem_append_right _ (List.mem_append_right _ (List.mem_append_right _ (List.mem_append_left _ h)))))) qfX12_bits)
theorem gfX12_loads_1 : GoodIn vfX12_loads (va_wsS RX12 390 yX12_bit vfX12_bit) := goodIn_app (goodIn_r [.methodLink RX12 390 yX12_bit, .static yX12_bit, .initialized RX12] [7, 8, 6] rfl (by decide +kernel)) (goodIn_m (fun _ h => (List.mem_cons_of_mem _ (List.mem_append_right _ (List.mem_append_right _ (List.mem_append_right _ (List.mem_append_right _ (List.mem_append_left _ h))))))) qfX12_bit)
theorem gfX12_loads_2 : GoodIn vfX12_loads (wsV RX12 442 RX12 yX12_worthNow vfX12_worthNow) := goodIn_app (goodIn_r [.methodLink RX12 442 yX12_worthNow, .instanceMethod yX12_worthNow, .selects RX12 yX12_worthNow yX12_worthNow, .initialized RX12] [10, 11, 12, 6] rfl (by decide +kernel)) (goodIn_m (fun _ h => (List.mem_cons_of_mem _ (List.mem_append_right _ (List.mem_append_right _ (List.mem_append_right _ (List.mem_append_right _ (List.mem_append_right _ h))))))) qfX12_worthNow)
set_option maxHeartbeats 2000000 in
set_option maxRecDepth 100000 in
theorem kfX12_loads (l : Launch) (dC : Nat → ClassId) (dI : Nat → Nat → Nat) (a0 : Nat) (k1 : Int32) (a2 : Nat) (a3 : Nat) (uq : Nat → Nat) (kq : Nat → ClassId) (m_v : TX12_v) (m_k : TX12_k) (g8 : Value) (g9 : Value) (g10 : Value) (g11 : Value) (g12 : Value) (g13 : Value) (g14 : Value) (g15 : Value) (g16 : Value) (g17 : Value) (g18 : Value) (g19 : Value) (g20 : Value) (g21 : Value) (g22 : Value) (g23 : Value) (g24 : Value) (g25 : Value) (g26 : Value) (g27 : Value) (g28 : Value) (g29 : Value) (g30 : Value) (g31 : Value) (g32 : Value) (q_q : TX11_q) (cB34 : ClassId) (sz : Nat) (out : TX12_k) (h : f_X12_loads k1 m_v m_k q_q = some out) : Met l yX12_loads vfX12_loads ({ frames := 2, cells := 0, slots := 0, locals := 45 }) (PC (dC, dI) [.ref a0, .int k1] sz ((a0, .inr (9, [g8, g9, g10, .ref a2, g11, g12, g13, g14, g15, g16, g17, g18, g19, g20, g21, .ref a3, g22, g23, g24, g25, g26, g27, g28, g29, .int m_k.1, .int m_k.2.1, .int m_k.2.2, g30, g31, g32])) :: bX11 a2 uq kq q_q ([(a3, .inl (cB34, 26, .inl m_v))])) (tX11 kq ((cB34, .int) :: []))) (va_Qv (S := Unit) (fun _ => True) (fun _ t => BC (dC, dI) (va_A ((a0, .inr (9, [g8, g9, g10, .ref a2, g11, g12, g13, g14, g15, g16, g17, g18, g19, g20, g21, .ref a3, g22, g23, g24, g25, g26, g27, g28, g29, .int m_k.1, .int m_k.2.1, .int m_k.2.2, g30, g31, g32])) :: bX11 a2 uq kq q_q ([(a3, .inl (cB34, 26, .inl m_v))])) sz) ((a0, .inr (9, [g8, g9, g10, .ref a2, g11, g12, g13, g14, g15, g16, g17, g18, g19, g20, g21, .ref a3, g22, g23, g24, g25, g26, g27, g28, g29, .int out.1, .int out.2.1, .int out.2.2, g30, g31, g32])) :: bX11 a2 uq kq q_q ([(a3, .inl (cB34, 26, .inl m_v))])) [] t) (va_A ((a0, .inr (9, [g8, g9, g10, .ref a2, g11, g12, g13, g14, g15, g16, g17, g18, g19, g20, g21, .ref a3, g22, g23, g24, g25, g26, g27, g28, g29, .int m_k.1, .int m_k.2.1, .int m_k.2.2, g30, g31, g32])) :: bX11 a2 uq kq q_q ([(a3, .inl (cB34, 26, .inl m_v))])) sz)) 0 0 (va_A ((a0, .inr (9, [g8, g9, g10, .ref a2, g11, g12, g13, g14, g15, g16, g17, g18, g19, g20, g21, .ref a3, g22, g23, g24, g25, g26, g27, g28, g29, .int m_k.1, .int m_k.2.1, .int m_k.2.2, g30, g31, g32])) :: bX11 a2 uq kq q_q ([(a3, .inl (cB34, 26, .inl m_v))])) sz) := by
  refine Met.ofW (cc := cX12_loads) (maxL := 6) (ret := none) (by decide) rfl ?_
  intro p e s m args below meth c s₁ B0 hml hv
  obtain ⟨rfl, hsz, hP, hK, hD0, hN⟩ := hv
  have hx := B0.exec
  have hb := B0.bytes
  have hr := B0.returns
  have hts := atoms_spec (ws := vfX12_loads) B0.pre
  have hown : s.vm.findClass RX12 = some m.cls := findClass_of_methodNamed B0.named
  have hlocks := B0.notSynchronized
  subst hsz
  have hD := hD0.self (sz := s.heap.size)
  generalize hAe : va_A ((a0, .inr (9, [g8, g9, g10, .ref a2, g11, g12, g13, g14, g15, g16, g17, g18, g19, g20, g21, .ref a3, g22, g23, g24, g25, g26, g27, g28, g29, .int m_k.1, .int m_k.2.1, .int m_k.2.2, g30, g31, g32])) :: bX11 a2 uq kq q_q ([(a3, .inl (cB34, 26, .inl m_v))])) s.heap.size = A at hD ⊢
  have hA : ∀ q : Nat, s.heap.size ≤ q → A q := fun q h => by rw [← hAe]; exact Or.inr h
  have hS : va_S A s.heap s.heap [] := va_S.rf
  have hP : va_P (dC, dI) vwCl ((a0, .inr (9, [g8, g9, g10, .ref a2, g11, g12, g13, g14, g15, g16, g17, g18, g19, g20, g21, .ref a3, g22, g23, g24, g25, g26, g27, g28, g29, .int m_k.1, .int m_k.2.1, .int m_k.2.2, g30, g31, g32])) :: bX11 a2 uq kq q_q ([(a3, .inl (cB34, 26, .inl m_v))])) s.heap := hP
  have hl := lv_entry ([.ref a0, .int k1]) (n := 6) (Nat.le_of_ble_eq_true rfl)
  rw [lg_entry_eq]
  generalize (lg_sl ([.ref a0, .int k1]) ++ List.replicate (6 - (lg_sl ([.ref a0, .int k1])).length) Slot.unset).toArray = ls at hl ⊢
  have hl : lv_has ls 6 [(0, .ref a0), (1, .int k1)] := hl
  refine W_q (fun QQ hQQ => ?_)
  rw [f_X12_loads] at h
  refine lv_aload_n hx hb dX12_loads_0 rfl (lv_at hl 0 rfl) ?_
  refine lv_iconst (v := 0) hx hb dX12_loads_1 (by decide) ?_
  refine va_put (D := (dC, dI)) (ci := 9) (v := .int 0) (ty := .int) (C := RX12) (T := TX12) (N := 30) hx hb hts ifX12_loads_X12 tyX12 tyX12_ok nmX12 hown hK hP hD hS 0 rfl rfl 25 (by decide) (hts (.fieldLink RX12 436 "HookPierModel" "loaded" "I") (List.mem_of_getElem? (i := 1) rfl)) (fun _ h9 => h9) rfl (by decide +kernel) rfl rfl (Nat.le_of_ble_eq_true rfl) dX12_loads_2 (fun H locs hP hD hS => ?_)
  have hP : va_P (dC, dI) vwCl ((a0, .inr (9, [g8, g9, g10, .ref a2, g11, g12, g13, g14, g15, g16, g17, g18, g19, g20, g21, .ref a3, g22, g23, g24, g25, g26, g27, g28, g29, .int m_k.1, .int 0, .int m_k.2.2, g30, g31, g32])) :: bX11 a2 uq kq q_q ([(a3, .inl (cB34, 26, .inl m_v))])) H := hP
  have hD : va_D A ((a0, .inr (9, [g8, g9, g10, .ref a2, g11, g12, g13, g14, g15, g16, g17, g18, g19, g20, g21, .ref a3, g22, g23, g24, g25, g26, g27, g28, g29, .int m_k.1, .int 0, .int m_k.2.2, g30, g31, g32])) :: bX11 a2 uq kq q_q ([(a3, .inl (cB34, 26, .inl m_v))])) := hD
  refine lv_aload_n hx hb dX12_loads_5 rfl (lv_at hl 0 rfl) ?_
  refine lv_iconst (v := 0) hx hb dX12_loads_6 (by decide) ?_
  refine va_put (D := (dC, dI)) (ci := 9) (v := .int 0) (ty := .int) (C := RX12) (T := TX12) (N := 30) hx hb hts ifX12_loads_X12 tyX12 tyX12_ok nmX12 hown hK hP hD hS 0 rfl rfl 26 (by decide) (hts (.fieldLink RX12 439 "HookPierModel" "loadedWorth" "I") (List.mem_of_getElem? (i := 2) rfl)) (fun _ h9 => h9) rfl (by decide +kernel) rfl rfl (Nat.le_of_ble_eq_true rfl) dX12_loads_7 (fun H locs hP hD hS => ?_)
  have hP : va_P (dC, dI) vwCl ((a0, .inr (9, [g8, g9, g10, .ref a2, g11, g12, g13, g14, g15, g16, g17, g18, g19, g20, g21, .ref a3, g22, g23, g24, g25, g26, g27, g28, g29, .int m_k.1, .int 0, .int 0, g30, g31, g32])) :: bX11 a2 uq kq q_q ([(a3, .inl (cB34, 26, .inl m_v))])) H := hP
  have hD : va_D A ((a0, .inr (9, [g8, g9, g10, .ref a2, g11, g12, g13, g14, g15, g16, g17, g18, g19, g20, g21, .ref a3, g22, g23, g24, g25, g26, g27, g28, g29, .int m_k.1, .int 0, .int 0, g30, g31, g32])) :: bX11 a2 uq kq q_q ([(a3, .inl (cB34, 26, .inl m_v))])) := hD
  refine lv_iconst (v := 1) hx hb dX12_loads_10 (by decide) ?_
  refine lv_istore_n (lv' := [(2, .int 1), (0, .ref a0), (1, .int k1)]) hx hb dX12_loads_11 rfl hl (by decide) rfl (fun ls hl => ?_)
  have L12 : ∀ (n12 : Nat) (v12_l2 : Int32) (v12_m_k : TX12_k) (H : Heap) (locs : List Loc) (ls : Array Slot), f_X12_loads_L12 k1 m_v q_q n12 v12_l2 v12_m_k = some out → va_P (dC, dI) vwCl ((a0, .inr (9, [g8, g9, g10, .ref a2, g11, g12, g13, g14, g15, g16, g17, g18, g19, g20, g21, .ref a3, g22, g23, g24, g25, g26, g27, g28, g29, .int v12_m_k.1, .int v12_m_k.2.1, .int v12_m_k.2.2, g30, g31, g32])) :: bX11 a2 uq kq q_q ([(a3, .inl (cB34, 26, .inl m_v))])) H → va_D A ((a0, .inr (9, [g8, g9, g10, .ref a2, g11, g12, g13, g14, g15, g16, g17, g18, g19, g20, g21, .ref a3, g22, g23, g24, g25, g26, g27, g28, g29, .int v12_m_k.1, .int v12_m_k.2.1, .int v12_m_k.2.2, g30, g31, g32])) :: bX11 a2 uq kq q_q ([(a3, .inl (cB34, 26, .inl m_v))])) → va_S A s.heap H locs → lv_has ls 6 [(2, .int v12_l2), (0, .ref a0), (1, .int k1)] → W p l e (headSpec vfX12_loads { frames := 2, cells := 0, slots := 0, locals := 45 }).room s m ([.ref a0, .int k1]).toArray below meth c H locs 0 0 QQ (F0 m 12 ls []) := by
    intro n12
    induction n12 with
    | zero =>
      intro v12_l2 v12_m_k H locs ls h  _ _ _ _
      rw [f_X12_loads_L12] at h
      cases h
    | succ n12 ih12 =>
      intro v12_l2 v12_m_k H locs ls h  hP hD hS hl
      rw [f_X12_loads_L12] at h
      refine lv_iload_n hx hb dX12_loads_12 rfl (lv_at hl 0 rfl) ?_
      refine lv_iconst (v := 1) hx hb dX12_loads_13 (by decide) ?_
      refine lv_aload_n hx hb dX12_loads_14 rfl (lv_at hl 1 rfl) ?_
      refine va_get (D := (dC, dI)) (ci := 9) (v := .ref a2) (C := RX12) (T := TX12) (N := 30) hx hb hts ifX12_loads_X12 hown hK hP 0 rfl rfl 3 (by decide) (hts (.fieldLink RX12 299 "HookPierModel" "pier" "LHookPierModel$Pier;") (List.mem_of_getElem? (i := 3) rfl)) (fun _ h9 => h9) rfl dX12_loads_15 ?_
      refine va_getN (D := (dC, dI)) (ci := 8) (v := .int q_q.2.2.2.2.2.2.1) (C := RX11) (T := TX11) (N := 24) hx hb hts ifX12_loads_X11 hown hK hP 1 rfl rfl 6 (by decide) (va_Nw.use rfl (hN.1 (.fieldLinkNest RX12 231 "HookPierModel$Pier" "answers" "I" "HookPierModel") (List.mem_of_getElem? (i := 28) rfl))) (fun _ h9 => h9) rfl dX12_loads_18 ?_
      refine lv_ishl hx hb dX12_loads_21 ?_
      refine lv_icmp_ge (tgt := 172) hx hb dX12_loads_22 (by decide) (fun c22 => ?_) (fun c22 => ?_)
      · have h := (if_pos c22).symm.trans h
        obtain rfl := Option.some.inj h
        have hP9 := hP.sub (ws' := ((a0, .inr (9, [g8, g9, g10, .ref a2, g11, g12, g13, g14, g15, g16, g17, g18, g19, g20, g21, .ref a3, g22, g23, g24, g25, g26, g27, g28, g29, .int v12_m_k.1, .int v12_m_k.2.1, .int v12_m_k.2.2, g30, g31, g32])) :: bX11 a2 uq kq q_q ([(a3, .inl (cB34, 26, .inl m_v))]))) [0, 1, 2, 3, 4, 5, 6, 7, 8, 9, 10, 11, 12, 13, 14, 15, 16] rfl
        have hD9 := hD.sub (ws' := ((a0, .inr (9, [g8, g9, g10, .ref a2, g11, g12, g13, g14, g15, g16, g17, g18, g19, g20, g21, .ref a3, g22, g23, g24, g25, g26, g27, g28, g29, .int v12_m_k.1, .int v12_m_k.2.1, .int v12_m_k.2.2, g30, g31, g32])) :: bX11 a2 uq kq q_q ([(a3, .inl (cB34, 26, .inl m_v))]))) [0, 1, 2, 3, 4, 5, 6, 7, 8, 9, 10, 11, 12, 13, 14, 15, 16] (by decide) rfl
        have hK9 := hK.sub (tys' := []) [] rfl
        rw [hQQ]
        exact W.vret hx hb hr (fun t ht hW => ⟨⟨(), rfl, trivial, by rw [ht]; exact hP9, va_K.moved hW.alike hK9, hD9⟩, hS.F ht⟩) hS.2.2 dX12_loads_172
      · have h := (if_neg c22).symm.trans h
        refine lv_iconst (v := 0) hx hb dX12_loads_25 (by decide) ?_
        refine lv_istore_n (lv' := [(3, .int 0), (2, .int v12_l2), (0, .ref a0), (1, .int k1)]) hx hb dX12_loads_26 rfl hl (by decide) rfl (fun ls hl => ?_)
        refine lv_iload_n hx hb dX12_loads_27 rfl (lv_at hl 1 rfl) ?_
        obtain ⟨o28, eo28, h⟩ := bd_of h
        refine cl_i (wc := []) (wr := ((a0, .inr (9, [g8, g9, g10, .ref a2, g11, g12, g13, g14, g15, g16, g17, g18, g19, g20, g21, .ref a3, g22, g23, g24, g25, g26, g27, g28, g29, .int v12_m_k.1, .int v12_m_k.2.1, .int v12_m_k.2.2, g30, g31, g32])) :: bX11 a2 uq kq q_q ([(a3, .inl (cB34, 26, .inl m_v))]))) (va_runS (As := [.int v12_l2]) (rest := []) ⟨hx, hb, hml, hown, hts⟩ (kfX12_bits l dC dI v12_l2 H.size o28 eo28) (va_cwS 1 hts gfX12_loads_0 rfl rfl rfl (by decide +kernel) ⟨(Nat.le_of_ble_eq_true rfl), (Nat.le_of_ble_eq_true rfl)⟩) (PS (hP.sub (ws' := []) [] rfl) (hK.sub (tys' := ([])) [] rfl) (hD.sub (ws' := []) [] (by decide) rfl) hN) rfl rfl hl.1 rfl (lv_room (Nat.le_of_ble_eq_true rfl)) dX12_loads_28 ⟨(Nat.le_of_ble_eq_true rfl), (Nat.le_of_ble_eq_true rfl)⟩) hP hD hK hS hA [] [0, 1, 2, 3, 4, 5, 6, 7, 8, 9, 10, 11, 12, 13, 14, 15, 16] rfl rfl (by decide) (by decide) (fun r28 _ H locs hw hP hD _ hS => ?_)
        obtain rfl := hw.symm
        have hP : va_P (dC, dI) vwCl ((a0, .inr (9, [g8, g9, g10, .ref a2, g11, g12, g13, g14, g15, g16, g17, g18, g19, g20, g21, .ref a3, g22, g23, g24, g25, g26, g27, g28, g29, .int v12_m_k.1, .int v12_m_k.2.1, .int v12_m_k.2.2, g30, g31, g32])) :: bX11 a2 uq kq q_q ([(a3, .inl (cB34, 26, .inl m_v))])) H := hP
        have hD : va_D A ((a0, .inr (9, [g8, g9, g10, .ref a2, g11, g12, g13, g14, g15, g16, g17, g18, g19, g20, g21, .ref a3, g22, g23, g24, g25, g26, g27, g28, g29, .int v12_m_k.1, .int v12_m_k.2.1, .int v12_m_k.2.2, g30, g31, g32])) :: bX11 a2 uq kq q_q ([(a3, .inl (cB34, 26, .inl m_v))])) := hD
        refine lv_iload_n hx hb dX12_loads_31 rfl (lv_at hl 3 rfl) ?_
        have J40 : ∀ (v40_t0 : Int32) (H : Heap) (locs : List Loc) (ls : Array Slot), f_X12_loads_J40 m_v q_q (f_X12_loads_L12 k1 m_v q_q n12) v12_l2 v12_m_k v40_t0 = some out → 0 ≤ v40_t0.toInt ∧ v40_t0.toInt ≤ 1 → va_P (dC, dI) vwCl ((a0, .inr (9, [g8, g9, g10, .ref a2, g11, g12, g13, g14, g15, g16, g17, g18, g19, g20, g21, .ref a3, g22, g23, g24, g25, g26, g27, g28, g29, .int v12_m_k.1, .int v12_m_k.2.1, .int v12_m_k.2.2, g30, g31, g32])) :: bX11 a2 uq kq q_q ([(a3, .inl (cB34, 26, .inl m_v))])) H → va_D A ((a0, .inr (9, [g8, g9, g10, .ref a2, g11, g12, g13, g14, g15, g16, g17, g18, g19, g20, g21, .ref a3, g22, g23, g24, g25, g26, g27, g28, g29, .int v12_m_k.1, .int v12_m_k.2.1, .int v12_m_k.2.2, g30, g31, g32])) :: bX11 a2 uq kq q_q ([(a3, .inl (cB34, 26, .inl m_v))])) → va_S A s.heap H locs → lv_has ls 6 [(3, .int 0), (2, .int v12_l2), (0, .ref a0), (1, .int k1)] → W p l e (headSpec vfX12_loads { frames := 2, cells := 0, slots := 0, locals := 45 }).room s m ([.ref a0, .int k1]).toArray below meth c H locs 0 0 QQ (F0 m 40 ls [.int v40_t0]) := by
          intro v40_t0 H locs ls h zb_v40_t0 hP hD hS hl
          rw [f_X12_loads_J40] at h
          refine lv_istore (lv' := [(4, .int v40_t0), (3, .int 0), (2, .int v12_l2), (0, .ref a0), (1, .int k1)]) hx hb dX12_loads_40 hl (by decide) rfl (fun ls hl => ?_)
          refine lv_iconst (v := 0) hx hb dX12_loads_42 (by decide) ?_
          refine lv_istore (lv' := [(5, .int 0), (4, .int v40_t0), (3, .int 0), (2, .int v12_l2), (0, .ref a0), (1, .int k1)]) hx hb dX12_loads_43 hl (by decide) rfl (fun ls hl => ?_)
          have L45 : ∀ (n45 : Nat) (v45_l5 : Int32) (v45_l4 : Int32) (v45_l3 : Int32) (H : Heap) (locs : List Loc) (ls : Array Slot), f_X12_loads_L45 m_v q_q (f_X12_loads_L12 k1 m_v q_q n12) v12_l2 v12_m_k n45 v45_l5 v45_l4 v45_l3 = some out → 0 ≤ v45_l4.toInt ∧ v45_l4.toInt ≤ 1 → va_P (dC, dI) vwCl ((a0, .inr (9, [g8, g9, g10, .ref a2, g11, g12, g13, g14, g15, g16, g17, g18, g19, g20, g21, .ref a3, g22, g23, g24, g25, g26, g27, g28, g29, .int v12_m_k.1, .int v12_m_k.2.1, .int v12_m_k.2.2, g30, g31, g32])) :: bX11 a2 uq kq q_q ([(a3, .inl (cB34, 26, .inl m_v))])) H → va_D A ((a0, .inr (9, [g8, g9, g10, .ref a2, g11, g12, g13, g14, g15, g16, g17, g18, g19, g20, g21, .ref a3, g22, g23, g24, g25, g26, g27, g28, g29, .int v12_m_k.1, .int v12_m_k.2.1, .int v12_m_k.2.2, g30, g31, g32])) :: bX11 a2 uq kq q_q ([(a3, .inl (cB34, 26, .inl m_v))])) → va_S A s.heap H locs → lv_has ls 6 [(5, .int v45_l5), (4, .int v45_l4), (3, .int v45_l3), (2, .int v12_l2), (0, .ref a0), (1, .int k1)] → W p l e (headSpec vfX12_loads { frames := 2, cells := 0, slots := 0, locals := 45 }).room s m ([.ref a0, .int k1]).toArray below meth c H locs 0 0 QQ (F0 m 45 ls []) := by
            intro n45
            induction n45 with
            | zero =>
              intro v45_l5 v45_l4 v45_l3 H locs ls h _ _ _ _ _
              rw [f_X12_loads_L45] at h
              cases h
            | succ n45 ih45 =>
              intro v45_l5 v45_l4 v45_l3 H locs ls h zb_v45_l4 hP hD hS hl
              rw [f_X12_loads_L45] at h
              refine lv_iload hx hb dX12_loads_45 (lv_at hl 0 rfl) ?_
              refine lv_aload_n hx hb dX12_loads_47 rfl (lv_at hl 4 rfl) ?_
              refine va_get (D := (dC, dI)) (ci := 9) (v := .ref a2) (C := RX12) (T := TX12) (N := 30) hx hb hts ifX12_loads_X12 hown hK hP 0 rfl rfl 3 (by decide) (hts (.fieldLink RX12 299 "HookPierModel" "pier" "LHookPierModel$Pier;") (List.mem_of_getElem? (i := 3) rfl)) (fun _ h9 => h9) rfl dX12_loads_48 ?_
              refine va_getN (D := (dC, dI)) (ci := 8) (v := .int q_q.2.2.2.2.2.2.1) (C := RX11) (T := TX11) (N := 24) hx hb hts ifX12_loads_X11 hown hK hP 1 rfl rfl 6 (by decide) (va_Nw.use rfl (hN.1 (.fieldLinkNest RX12 231 "HookPierModel$Pier" "answers" "I" "HookPierModel") (List.mem_of_getElem? (i := 28) rfl))) (fun _ h9 => h9) rfl dX12_loads_51 ?_
              have J118 : ∀ (H : Heap) (locs : List Loc) (ls : Array Slot), f_X12_loads_J118 (f_X12_loads_L12 k1 m_v q_q n12) v12_l2 v12_m_k v45_l3 v45_l4 = some out → va_P (dC, dI) vwCl ((a0, .inr (9, [g8, g9, g10, .ref a2, g11, g12, g13, g14, g15, g16, g17, g18, g19, g20, g21, .ref a3, g22, g23, g24, g25, g26, g27, g28, g29, .int v12_m_k.1, .int v12_m_k.2.1, .int v12_m_k.2.2, g30, g31, g32])) :: bX11 a2 uq kq q_q ([(a3, .inl (cB34, 26, .inl m_v))])) H → va_D A ((a0, .inr (9, [g8, g9, g10, .ref a2, g11, g12, g13, g14, g15, g16, g17, g18, g19, g20, g21, .ref a3, g22, g23, g24, g25, g26, g27, g28, g29, .int v12_m_k.1, .int v12_m_k.2.1, .int v12_m_k.2.2, g30, g31, g32])) :: bX11 a2 uq kq q_q ([(a3, .inl (cB34, 26, .inl m_v))])) → va_S A s.heap H locs → lv_has ls 6 [(4, .int v45_l4), (3, .int v45_l3), (2, .int v12_l2), (0, .ref a0), (1, .int k1)] → W p l e (headSpec vfX12_loads { frames := 2, cells := 0, slots := 0, locals := 45 }).room s m ([.ref a0, .int k1]).toArray below meth c H locs 0 0 QQ (F0 m 118 ls []) := by
                intro  H locs ls h  hP hD hS hl
                rw [f_X12_loads_J118] at h
                refine lv_iload hx hb dX12_loads_118 (lv_at hl 0 rfl) ?_
                have J166 : ∀ (v166_m_k : TX12_k) (H : Heap) (locs : List Loc) (ls : Array Slot), f_X12_loads_J166 (f_X12_loads_L12 k1 m_v q_q n12) v12_l2 v166_m_k = some out → va_P (dC, dI) vwCl ((a0, .inr (9, [g8, g9, g10, .ref a2, g11, g12, g13, g14, g15, g16, g17, g18, g19, g20, g21, .ref a3, g22, g23, g24, g25, g26, g27, g28, g29, .int v166_m_k.1, .int v166_m_k.2.1, .int v166_m_k.2.2, g30, g31, g32])) :: bX11 a2 uq kq q_q ([(a3, .inl (cB34, 26, .inl m_v))])) H → va_D A ((a0, .inr (9, [g8, g9, g10, .ref a2, g11, g12, g13, g14, g15, g16, g17, g18, g19, g20, g21, .ref a3, g22, g23, g24, g25, g26, g27, g28, g29, .int v166_m_k.1, .int v166_m_k.2.1, .int v166_m_k.2.2, g30, g31, g32])) :: bX11 a2 uq kq q_q ([(a3, .inl (cB34, 26, .inl m_v))])) → va_S A s.heap H locs → lv_has ls 6 [(2, .int v12_l2), (0, .ref a0), (1, .int k1)] → W p l e (headSpec vfX12_loads { frames := 2, cells := 0, slots := 0, locals := 45 }).room s m ([.ref a0, .int k1]).toArray below meth c H locs 0 0 QQ (F0 m 166 ls []) := by
                  intro v166_m_k H locs ls h  hP hD hS hl
                  rw [f_X12_loads_J166] at h
                  refine lv_iinc (v := (v12_l2 + (1 : Int32))) (lv' := [(2, .int (v12_l2 + (1 : Int32))), (0, .ref a0), (1, .int k1)]) hx hb dX12_loads_166 hl (k := 0) rfl rfl (by decide) rfl (fun ls hl => ?_)
                  refine lv_goto (tgt := 12) hx hb dX12_loads_169 (by decide) ?_
                  exact ih12 (v12_l2 + (1 : Int32)) v166_m_k H _ ls h  hP hD hS (lv_sub hl [0, 1, 2] rfl)
                refine lv_if_eq (tgt := 166) hx hb dX12_loads_120 (by decide) (fun c120 => ?_) (fun c120 => ?_)
                · have h := (if_pos c120).symm.trans h
                  exact J166 v12_m_k H _ ls h  hP hD hS (lv_sub hl [2, 3, 4] rfl)
                · have h := (if_neg c120).symm.trans h
                  refine lv_iload_n hx hb dX12_loads_123 rfl (lv_at hl 1 rfl) ?_
                  refine lv_aload_n hx hb dX12_loads_124 rfl (lv_at hl 3 rfl) ?_
                  refine va_get (D := (dC, dI)) (ci := 9) (v := .int v12_m_k.2.2) (C := RX12) (T := TX12) (N := 30) hx hb hts ifX12_loads_X12 hown hK hP 0 rfl rfl 26 (by decide) (hts (.fieldLink RX12 439 "HookPierModel" "loadedWorth" "I") (List.mem_of_getElem? (i := 2) rfl)) (fun _ h9 => h9) rfl dX12_loads_125 ?_
                  refine lv_icmp_lt (tgt := 166) hx hb dX12_loads_128 (by decide) (fun c128 => ?_) (fun c128 => ?_)
                  · have h := (if_pos c128).symm.trans h
                    exact J166 v12_m_k H _ ls h  hP hD hS (lv_sub hl [2, 3, 4] rfl)
                  · have h := (if_neg c128).symm.trans h
                    refine lv_iload_n hx hb dX12_loads_131 rfl (lv_at hl 1 rfl) ?_
                    refine lv_aload_n hx hb dX12_loads_132 rfl (lv_at hl 3 rfl) ?_
                    refine va_get (D := (dC, dI)) (ci := 9) (v := .int v12_m_k.2.2) (C := RX12) (T := TX12) (N := 30) hx hb hts ifX12_loads_X12 hown hK hP 0 rfl rfl 26 (by decide) (hts (.fieldLink RX12 439 "HookPierModel" "loadedWorth" "I") (List.mem_of_getElem? (i := 2) rfl)) (fun _ h9 => h9) rfl dX12_loads_133 ?_
                    have J156 : ∀ (H : Heap) (locs : List Loc) (ls : Array Slot), f_X12_loads_J156 (f_X12_loads_L12 k1 m_v q_q n12) v12_l2 v12_m_k v45_l3 = some out → va_P (dC, dI) vwCl ((a0, .inr (9, [g8, g9, g10, .ref a2, g11, g12, g13, g14, g15, g16, g17, g18, g19, g20, g21, .ref a3, g22, g23, g24, g25, g26, g27, g28, g29, .int v12_m_k.1, .int v12_m_k.2.1, .int v12_m_k.2.2, g30, g31, g32])) :: bX11 a2 uq kq q_q ([(a3, .inl (cB34, 26, .inl m_v))])) H → va_D A ((a0, .inr (9, [g8, g9, g10, .ref a2, g11, g12, g13, g14, g15, g16, g17, g18, g19, g20, g21, .ref a3, g22, g23, g24, g25, g26, g27, g28, g29, .int v12_m_k.1, .int v12_m_k.2.1, .int v12_m_k.2.2, g30, g31, g32])) :: bX11 a2 uq kq q_q ([(a3, .inl (cB34, 26, .inl m_v))])) → va_S A s.heap H locs → lv_has ls 6 [(3, .int v45_l3), (2, .int v12_l2), (0, .ref a0), (1, .int k1)] → W p l e (headSpec vfX12_loads { frames := 2, cells := 0, slots := 0, locals := 45 }).room s m ([.ref a0, .int k1]).toArray below meth c H locs 0 0 QQ (F0 m 156 ls []) := by
                      intro  H locs ls h  hP hD hS hl
                      rw [f_X12_loads_J156] at h
                      refine lv_aload_n hx hb dX12_loads_156 rfl (lv_at hl 2 rfl) ?_
                      refine lv_iload_n hx hb dX12_loads_157 rfl (lv_at hl 1 rfl) ?_
                      refine va_put (D := (dC, dI)) (ci := 9) (v := .int v12_l2) (ty := .int) (C := RX12) (T := TX12) (N := 30) hx hb hts ifX12_loads_X12 tyX12 tyX12_ok nmX12 hown hK hP hD hS 0 rfl rfl 25 (by decide) (hts (.fieldLink RX12 436 "HookPierModel" "loaded" "I") (List.mem_of_getElem? (i := 1) rfl)) (fun _ h9 => h9) rfl (by decide +kernel) rfl rfl (Nat.le_of_ble_eq_true rfl) dX12_loads_158 (fun H locs hP hD hS => ?_)
                      have hP : va_P (dC, dI) vwCl ((a0, .inr (9, [g8, g9, g10, .ref a2, g11, g12, g13, g14, g15, g16, g17, g18, g19, g20, g21, .ref a3, g22, g23, g24, g25, g26, g27, g28, g29, .int v12_m_k.1, .int v12_l2, .int v12_m_k.2.2, g30, g31, g32])) :: bX11 a2 uq kq q_q ([(a3, .inl (cB34, 26, .inl m_v))])) H := hP
                      have hD : va_D A ((a0, .inr (9, [g8, g9, g10, .ref a2, g11, g12, g13, g14, g15, g16, g17, g18, g19, g20, g21, .ref a3, g22, g23, g24, g25, g26, g27, g28, g29, .int v12_m_k.1, .int v12_l2, .int v12_m_k.2.2, g30, g31, g32])) :: bX11 a2 uq kq q_q ([(a3, .inl (cB34, 26, .inl m_v))])) := hD
                      refine lv_aload_n hx hb dX12_loads_161 rfl (lv_at hl 2 rfl) ?_
                      refine lv_iload_n hx hb dX12_loads_162 rfl (lv_at hl 0 rfl) ?_
                      refine va_put (D := (dC, dI)) (ci := 9) (v := .int v45_l3) (ty := .int) (C := RX12) (T := TX12) (N := 30) hx hb hts ifX12_loads_X12 tyX12 tyX12_ok nmX12 hown hK hP hD hS 0 rfl rfl 26 (by decide) (hts (.fieldLink RX12 439 "HookPierModel" "loadedWorth" "I") (List.mem_of_getElem? (i := 2) rfl)) (fun _ h9 => h9) rfl (by decide +kernel) rfl rfl (Nat.le_of_ble_eq_true rfl) dX12_loads_163 (fun H locs hP hD hS => ?_)
                      have hP : va_P (dC, dI) vwCl ((a0, .inr (9, [g8, g9, g10, .ref a2, g11, g12, g13, g14, g15, g16, g17, g18, g19, g20, g21, .ref a3, g22, g23, g24, g25, g26, g27, g28, g29, .int v12_m_k.1, .int v12_l2, .int v45_l3, g30, g31, g32])) :: bX11 a2 uq kq q_q ([(a3, .inl (cB34, 26, .inl m_v))])) H := hP
                      have hD : va_D A ((a0, .inr (9, [g8, g9, g10, .ref a2, g11, g12, g13, g14, g15, g16, g17, g18, g19, g20, g21, .ref a3, g22, g23, g24, g25, g26, g27, g28, g29, .int v12_m_k.1, .int v12_l2, .int v45_l3, g30, g31, g32])) :: bX11 a2 uq kq q_q ([(a3, .inl (cB34, 26, .inl m_v))])) := hD
                      exact J166 (v12_m_k.1, v12_l2, v45_l3) H _ ls h  hP hD hS (lv_sub hl [1, 2, 3] rfl)
                    refine lv_icmp_ne (tgt := 156) hx hb dX12_loads_136 (by decide) (fun c136 => ?_) (fun c136 => ?_)
                    · have h := (if_neg c136).symm.trans h
                      exact J156  H _ ls h  hP hD hS (lv_sub hl [1, 2, 3, 4] rfl)
                    · have h := (if_pos c136).symm.trans h
                      refine lv_iload_n hx hb dX12_loads_139 rfl (lv_at hl 2 rfl) ?_
                      obtain ⟨o140, eo140, h⟩ := bd_of h
                      refine cl_i (wc := []) (wr := ((a0, .inr (9, [g8, g9, g10, .ref a2, g11, g12, g13, g14, g15, g16, g17, g18, g19, g20, g21, .ref a3, g22, g23, g24, g25, g26, g27, g28, g29, .int v12_m_k.1, .int v12_m_k.2.1, .int v12_m_k.2.2, g30, g31, g32])) :: bX11 a2 uq kq q_q ([(a3, .inl (cB34, 26, .inl m_v))]))) (va_runS (As := [.int v12_l2]) (rest := []) ⟨hx, hb, hml, hown, hts⟩ (kfX12_bits l dC dI v12_l2 H.size o140 eo140) (va_cwS 1 hts gfX12_loads_0 rfl rfl rfl (by decide +kernel) ⟨(Nat.le_of_ble_eq_true rfl), (Nat.le_of_ble_eq_true rfl)⟩) (PS (hP.sub (ws' := []) [] rfl) (hK.sub (tys' := ([])) [] rfl) (hD.sub (ws' := []) [] (by decide) rfl) hN) rfl rfl hl.1 rfl (lv_room (Nat.le_of_ble_eq_true rfl)) dX12_loads_140 ⟨(Nat.le_of_ble_eq_true rfl), (Nat.le_of_ble_eq_true rfl)⟩) hP hD hK hS hA [] [0, 1, 2, 3, 4, 5, 6, 7, 8, 9, 10, 11, 12, 13, 14, 15, 16] rfl rfl (by decide) (by decide) (fun r140 _ H locs hw hP hD _ hS => ?_)
                      obtain rfl := hw.symm
                      have hP : va_P (dC, dI) vwCl ((a0, .inr (9, [g8, g9, g10, .ref a2, g11, g12, g13, g14, g15, g16, g17, g18, g19, g20, g21, .ref a3, g22, g23, g24, g25, g26, g27, g28, g29, .int v12_m_k.1, .int v12_m_k.2.1, .int v12_m_k.2.2, g30, g31, g32])) :: bX11 a2 uq kq q_q ([(a3, .inl (cB34, 26, .inl m_v))])) H := hP
                      have hD : va_D A ((a0, .inr (9, [g8, g9, g10, .ref a2, g11, g12, g13, g14, g15, g16, g17, g18, g19, g20, g21, .ref a3, g22, g23, g24, g25, g26, g27, g28, g29, .int v12_m_k.1, .int v12_m_k.2.1, .int v12_m_k.2.2, g30, g31, g32])) :: bX11 a2 uq kq q_q ([(a3, .inl (cB34, 26, .inl m_v))])) := hD
                      refine lv_aload_n hx hb dX12_loads_143 rfl (lv_at hl 3 rfl) ?_
                      refine va_get (D := (dC, dI)) (ci := 9) (v := .int v12_m_k.2.1) (C := RX12) (T := TX12) (N := 30) hx hb hts ifX12_loads_X12 hown hK hP 0 rfl rfl 25 (by decide) (hts (.fieldLink RX12 436 "HookPierModel" "loaded" "I") (List.mem_of_getElem? (i := 1) rfl)) (fun _ h9 => h9) rfl dX12_loads_144 ?_
                      obtain ⟨o147, eo147, h⟩ := bd_of h
                      refine cl_i (wc := []) (wr := ((a0, .inr (9, [g8, g9, g10, .ref a2, g11, g12, g13, g14, g15, g16, g17, g18, g19, g20, g21, .ref a3, g22, g23, g24, g25, g26, g27, g28, g29, .int v12_m_k.1, .int v12_m_k.2.1, .int v12_m_k.2.2, g30, g31, g32])) :: bX11 a2 uq kq q_q ([(a3, .inl (cB34, 26, .inl m_v))]))) (va_runS (As := [.int v12_m_k.2.1]) (rest := [.int o140]) ⟨hx, hb, hml, hown, hts⟩ (kfX12_bits l dC dI v12_m_k.2.1 H.size o147 eo147) (va_cwS 1 hts gfX12_loads_0 rfl rfl rfl (by decide +kernel) ⟨(Nat.le_of_ble_eq_true rfl), (Nat.le_of_ble_eq_true rfl)⟩) (PS (hP.sub (ws' := []) [] rfl) (hK.sub (tys' := ([])) [] rfl) (hD.sub (ws' := []) [] (by decide) rfl) hN) rfl rfl hl.1 rfl (lv_room (Nat.le_of_ble_eq_true rfl)) dX12_loads_147 ⟨(Nat.le_of_ble_eq_true rfl), (Nat.le_of_ble_eq_true rfl)⟩) hP hD hK hS hA [] [0, 1, 2, 3, 4, 5, 6, 7, 8, 9, 10, 11, 12, 13, 14, 15, 16] rfl rfl (by decide) (by decide) (fun r147 _ H locs hw hP hD _ hS => ?_)
                      obtain rfl := hw.symm
                      have hP : va_P (dC, dI) vwCl ((a0, .inr (9, [g8, g9, g10, .ref a2, g11, g12, g13, g14, g15, g16, g17, g18, g19, g20, g21, .ref a3, g22, g23, g24, g25, g26, g27, g28, g29, .int v12_m_k.1, .int v12_m_k.2.1, .int v12_m_k.2.2, g30, g31, g32])) :: bX11 a2 uq kq q_q ([(a3, .inl (cB34, 26, .inl m_v))])) H := hP
                      have hD : va_D A ((a0, .inr (9, [g8, g9, g10, .ref a2, g11, g12, g13, g14, g15, g16, g17, g18, g19, g20, g21, .ref a3, g22, g23, g24, g25, g26, g27, g28, g29, .int v12_m_k.1, .int v12_m_k.2.1, .int v12_m_k.2.2, g30, g31, g32])) :: bX11 a2 uq kq q_q ([(a3, .inl (cB34, 26, .inl m_v))])) := hD
                      refine lv_icmp_lt (tgt := 156) hx hb dX12_loads_150 (by decide) (fun c150 => ?_) (fun c150 => ?_)
                      · have h := (if_pos c150).symm.trans h
                        exact J156  H _ ls h  hP hD hS (lv_sub hl [1, 2, 3, 4] rfl)
                      · have h := (if_neg c150).symm.trans h
                        refine lv_goto (tgt := 166) hx hb dX12_loads_153 (by decide) ?_
                        exact J166 v12_m_k H _ ls h  hP hD hS (lv_sub hl [2, 3, 4] rfl)
              refine lv_icmp_ge (tgt := 118) hx hb dX12_loads_54 (by decide) (fun c54 => ?_) (fun c54 => ?_)
              · have h := (if_pos c54).symm.trans h
                exact J118  H _ ls h  hP hD hS (lv_sub hl [1, 2, 3, 4, 5] rfl)
              · have h := (if_neg c54).symm.trans h
                refine lv_iload hx hb dX12_loads_57 (lv_at hl 1 rfl) ?_
                refine lv_if_eq (tgt := 118) hx hb dX12_loads_59 (by decide) (fun c59 => ?_) (fun c59 => ?_)
                · have h := (if_pos c59).symm.trans h
                  exact J118  H _ ls h  hP hD hS (lv_sub hl [1, 2, 3, 4, 5] rfl)
                · have h := (if_neg c59).symm.trans h
                  refine lv_iload_n hx hb dX12_loads_62 rfl (lv_at hl 3 rfl) ?_
                  refine lv_iload hx hb dX12_loads_63 (lv_at hl 0 rfl) ?_
                  obtain ⟨o65, eo65⟩ : ∃ o, o = f_X12_bit v12_l2 v45_l5 := ⟨_, rfl⟩
                  have h := nm_of h o65 eo65
                  refine cl_i (wc := []) (wr := ((a0, .inr (9, [g8, g9, g10, .ref a2, g11, g12, g13, g14, g15, g16, g17, g18, g19, g20, g21, .ref a3, g22, g23, g24, g25, g26, g27, g28, g29, .int v12_m_k.1, .int v12_m_k.2.1, .int v12_m_k.2.2, g30, g31, g32])) :: bX11 a2 uq kq q_q ([(a3, .inl (cB34, 26, .inl m_v))]))) (va_runS (As := [.int v12_l2, .int v45_l5]) (rest := []) ⟨hx, hb, hml, hown, hts⟩ (kfX12_bit l dC dI v12_l2 v45_l5 H.size o65 eo65.symm) (va_cwS 2 hts gfX12_loads_1 rfl rfl rfl (by decide +kernel) ⟨(Nat.le_of_ble_eq_true rfl), (Nat.le_of_ble_eq_true rfl)⟩) (PS (hP.sub (ws' := []) [] rfl) (hK.sub (tys' := ([])) [] rfl) (hD.sub (ws' := []) [] (by decide) rfl) hN) rfl rfl hl.1 rfl (lv_room (Nat.le_of_ble_eq_true rfl)) dX12_loads_65 ⟨(Nat.le_of_ble_eq_true rfl), (Nat.le_of_ble_eq_true rfl)⟩) hP hD hK hS hA [] [0, 1, 2, 3, 4, 5, 6, 7, 8, 9, 10, 11, 12, 13, 14, 15, 16] rfl rfl (by decide) (by decide) (fun r65 _ H locs hw hP hD _ hS => ?_)
                  obtain ⟨hw, br65⟩ := hw
                  obtain rfl := hw.symm
                  have hP : va_P (dC, dI) vwCl ((a0, .inr (9, [g8, g9, g10, .ref a2, g11, g12, g13, g14, g15, g16, g17, g18, g19, g20, g21, .ref a3, g22, g23, g24, g25, g26, g27, g28, g29, .int v12_m_k.1, .int v12_m_k.2.1, .int v12_m_k.2.2, g30, g31, g32])) :: bX11 a2 uq kq q_q ([(a3, .inl (cB34, 26, .inl m_v))])) H := hP
                  have hD : va_D A ((a0, .inr (9, [g8, g9, g10, .ref a2, g11, g12, g13, g14, g15, g16, g17, g18, g19, g20, g21, .ref a3, g22, g23, g24, g25, g26, g27, g28, g29, .int v12_m_k.1, .int v12_m_k.2.1, .int v12_m_k.2.2, g30, g31, g32])) :: bX11 a2 uq kq q_q ([(a3, .inl (cB34, 26, .inl m_v))])) := hD
                  have J112 : ∀ (v112_l4 : Int32) (v112_l3 : Int32) (H : Heap) (locs : List Loc) (ls : Array Slot), f_X12_loads_J112 (f_X12_loads_L45 m_v q_q (f_X12_loads_L12 k1 m_v q_q n12) v12_l2 v12_m_k n45) v45_l5 v112_l4 v112_l3 = some out → 0 ≤ v112_l4.toInt ∧ v112_l4.toInt ≤ 1 → va_P (dC, dI) vwCl ((a0, .inr (9, [g8, g9, g10, .ref a2, g11, g12, g13, g14, g15, g16, g17, g18, g19, g20, g21, .ref a3, g22, g23, g24, g25, g26, g27, g28, g29, .int v12_m_k.1, .int v12_m_k.2.1, .int v12_m_k.2.2, g30, g31, g32])) :: bX11 a2 uq kq q_q ([(a3, .inl (cB34, 26, .inl m_v))])) H → va_D A ((a0, .inr (9, [g8, g9, g10, .ref a2, g11, g12, g13, g14, g15, g16, g17, g18, g19, g20, g21, .ref a3, g22, g23, g24, g25, g26, g27, g28, g29, .int v12_m_k.1, .int v12_m_k.2.1, .int v12_m_k.2.2, g30, g31, g32])) :: bX11 a2 uq kq q_q ([(a3, .inl (cB34, 26, .inl m_v))])) → va_S A s.heap H locs → lv_has ls 6 [(5, .int v45_l5), (4, .int v112_l4), (3, .int v112_l3), (2, .int v12_l2), (0, .ref a0), (1, .int k1)] → W p l e (headSpec vfX12_loads { frames := 2, cells := 0, slots := 0, locals := 45 }).room s m ([.ref a0, .int k1]).toArray below meth c H locs 0 0 QQ (F0 m 112 ls []) := by
                    intro v112_l4 v112_l3 H locs ls h zb_v112_l4 hP hD hS hl
                    rw [f_X12_loads_J112] at h
                    refine lv_iinc (v := (v45_l5 + (1 : Int32))) (lv' := [(5, .int (v45_l5 + (1 : Int32))), (4, .int v112_l4), (3, .int v112_l3), (2, .int v12_l2), (0, .ref a0), (1, .int k1)]) hx hb dX12_loads_112 hl (k := 0) rfl rfl (by decide) rfl (fun ls hl => ?_)
                    refine lv_goto (tgt := 45) hx hb dX12_loads_115 (by decide) ?_
                    exact ih45 (v45_l5 + (1 : Int32)) v112_l4 v112_l3 H _ ls h zb_v112_l4 hP hD hS (lv_sub hl [0, 1, 2, 3, 4, 5] rfl)
                  refine lv_if_ne (tgt := 74) hx hb dX12_loads_68 (by decide) (fun c68 => ?_) (fun c68 => ?_)
                  · have h := (if_neg c68).symm.trans h
                    refine lv_aload_n hx hb dX12_loads_74 rfl (lv_at hl 4 rfl) ?_
                    refine va_get (D := (dC, dI)) (ci := 9) (v := .ref a3) (C := RX12) (T := TX12) (N := 30) hx hb hts ifX12_loads_X12 hown hK hP 0 rfl rfl 15 (by decide) (hts (.fieldLink RX12 17 "HookPierModel" "v" "[I") (List.mem_of_getElem? (i := 9) rfl)) (fun _ h9 => h9) rfl dX12_loads_75 ?_
                    refine lv_iconst (v := 0) hx hb dX12_loads_78 (by decide) ?_
                    refine lv_iload hx hb dX12_loads_79 (lv_at hl 0 rfl) ?_
                    refine lv_iadd hx hb dX12_loads_81 ?_
                    obtain ⟨hg82, h⟩ := gA_of h
                    refine va_iald hx hb hK hP 16 14 rfl rfl hg82 dX12_loads_82 ?_
                    refine lv_iconst (v := 1) hx hb dX12_loads_83 (by decide) ?_
                    have J92 : ∀ (v92_t0 : Int32) (H : Heap) (locs : List Loc) (ls : Array Slot), f_X12_loads_J92 m_v q_q (f_X12_loads_L45 m_v q_q (f_X12_loads_L12 k1 m_v q_q n12) v12_l2 v12_m_k n45) v45_l3 v45_l5 v92_t0 = some out → 0 ≤ v92_t0.toInt ∧ v92_t0.toInt ≤ 1 → va_P (dC, dI) vwCl ((a0, .inr (9, [g8, g9, g10, .ref a2, g11, g12, g13, g14, g15, g16, g17, g18, g19, g20, g21, .ref a3, g22, g23, g24, g25, g26, g27, g28, g29, .int v12_m_k.1, .int v12_m_k.2.1, .int v12_m_k.2.2, g30, g31, g32])) :: bX11 a2 uq kq q_q ([(a3, .inl (cB34, 26, .inl m_v))])) H → va_D A ((a0, .inr (9, [g8, g9, g10, .ref a2, g11, g12, g13, g14, g15, g16, g17, g18, g19, g20, g21, .ref a3, g22, g23, g24, g25, g26, g27, g28, g29, .int v12_m_k.1, .int v12_m_k.2.1, .int v12_m_k.2.2, g30, g31, g32])) :: bX11 a2 uq kq q_q ([(a3, .inl (cB34, 26, .inl m_v))])) → va_S A s.heap H locs → lv_has ls 6 [(5, .int v45_l5), (3, .int v45_l3), (2, .int v12_l2), (0, .ref a0), (1, .int k1)] → W p l e (headSpec vfX12_loads { frames := 2, cells := 0, slots := 0, locals := 45 }).room s m ([.ref a0, .int k1]).toArray below meth c H locs 0 0 QQ (F0 m 92 ls [.int v92_t0]) := by
                      intro v92_t0 H locs ls h zb_v92_t0 hP hD hS hl
                      rw [f_X12_loads_J92] at h
                      refine lv_istore (lv' := [(4, .int v92_t0), (5, .int v45_l5), (3, .int v45_l3), (2, .int v12_l2), (0, .ref a0), (1, .int k1)]) hx hb dX12_loads_92 hl (by decide) rfl (fun ls hl => ?_)
                      refine lv_iload_n hx hb dX12_loads_94 rfl (lv_at hl 2 rfl) ?_
                      refine lv_iload hx hb dX12_loads_95 (lv_at hl 0 rfl) ?_
                      have J110 : ∀ (v110_t1 : Int32) (H : Heap) (locs : List Loc) (ls : Array Slot), f_X12_loads_J110 (f_X12_loads_L45 m_v q_q (f_X12_loads_L12 k1 m_v q_q n12) v12_l2 v12_m_k n45) v45_l3 v45_l5 v92_t0 v110_t1 = some out → va_P (dC, dI) vwCl ((a0, .inr (9, [g8, g9, g10, .ref a2, g11, g12, g13, g14, g15, g16, g17, g18, g19, g20, g21, .ref a3, g22, g23, g24, g25, g26, g27, g28, g29, .int v12_m_k.1, .int v12_m_k.2.1, .int v12_m_k.2.2, g30, g31, g32])) :: bX11 a2 uq kq q_q ([(a3, .inl (cB34, 26, .inl m_v))])) H → va_D A ((a0, .inr (9, [g8, g9, g10, .ref a2, g11, g12, g13, g14, g15, g16, g17, g18, g19, g20, g21, .ref a3, g22, g23, g24, g25, g26, g27, g28, g29, .int v12_m_k.1, .int v12_m_k.2.1, .int v12_m_k.2.2, g30, g31, g32])) :: bX11 a2 uq kq q_q ([(a3, .inl (cB34, 26, .inl m_v))])) → va_S A s.heap H locs → lv_has ls 6 [(4, .int v92_t0), (5, .int v45_l5), (2, .int v12_l2), (0, .ref a0), (1, .int k1)] → W p l e (headSpec vfX12_loads { frames := 2, cells := 0, slots := 0, locals := 45 }).room s m ([.ref a0, .int k1]).toArray below meth c H locs 0 0 QQ (F0 m 110 ls [.int v110_t1, .int v45_l3]) := by
                        intro v110_t1 H locs ls h  hP hD hS hl
                        rw [f_X12_loads_J110] at h
                        refine lv_iadd hx hb dX12_loads_110 ?_
                        refine lv_istore_n (lv' := [(3, .int (v45_l3 + v110_t1)), (4, .int v92_t0), (5, .int v45_l5), (2, .int v12_l2), (0, .ref a0), (1, .int k1)]) hx hb dX12_loads_111 rfl hl (by decide) rfl (fun ls hl => ?_)
                        exact J112 v92_t0 (v45_l3 + v110_t1) H _ ls h zb_v92_t0 hP hD hS (lv_sub hl [2, 1, 0, 3, 4, 5] rfl)
                      refine lv_if_eq (tgt := 109) hx hb dX12_loads_97 (by decide) (fun c97 => ?_) (fun c97 => ?_)
                      · have h := (if_pos c97).symm.trans h
                        refine lv_iconst (v := 0) hx hb dX12_loads_109 (by decide) ?_
                        exact J110 (0 : Int32) H _ ls h  hP hD hS (lv_sub hl [0, 1, 3, 4, 5] rfl)
                      · have h := (if_neg c97).symm.trans h
                        refine lv_aload_n hx hb dX12_loads_100 rfl (lv_at hl 4 rfl) ?_
                        refine lv_iload hx hb dX12_loads_101 (lv_at hl 1 rfl) ?_
                        obtain ⟨o103, eo103, h⟩ := bd_of h
                        refine cl_i (wc := ((a0, .inr (9, [g8, g9, g10, .ref a2, g11, g12, g13, g14, g15, g16, g17, g18, g19, g20, g21, .ref a3, g22, g23, g24, g25, g26, g27, g28, g29, .int v12_m_k.1, .int v12_m_k.2.1, .int v12_m_k.2.2, g30, g31, g32])) :: bX11 a2 uq kq q_q ([(a3, .inl (cB34, 26, .inl m_v))]))) (wr := []) (va_runV (As := [.int v45_l5]) (rest := [.int v45_l3]) ⟨hx, hb, hml, hown, hts⟩ (kfX12_worthNow l dC dI a0 v45_l5 a2 a3 uq kq m_v (g8) (g9) (g10) (g11) (g12) (g13) (g14) (g15) (g16) (g17) (g18) (g19) (g20) (g21) (g22) (g23) (g24) (g25) (g26) (g27) (g28) (g29) (.int v12_m_k.1) (.int v12_m_k.2.1) (.int v12_m_k.2.2) (g30) (g31) (g32) q_q cB34 H.size o103 eo103) (cwV 1 hts gfX12_loads_2 rfl rfl rfl (by decide +kernel) ⟨(Nat.le_of_ble_eq_true rfl), (Nat.le_of_ble_eq_true rfl)⟩) (PV (hP.sub (ws' := ((a0, .inr (9, [g8, g9, g10, .ref a2, g11, g12, g13, g14, g15, g16, g17, g18, g19, g20, g21, .ref a3, g22, g23, g24, g25, g26, g27, g28, g29, .int v12_m_k.1, .int v12_m_k.2.1, .int v12_m_k.2.2, g30, g31, g32])) :: bX11 a2 uq kq q_q ([(a3, .inl (cB34, 26, .inl m_v))]))) [0, 1, 2, 3, 4, 5, 6, 7, 8, 9, 10, 11, 12, 13, 14, 15, 16] rfl) (hK.sub (tys' := (tX11 kq ((cB34, .int) :: []))) [0, 1, 2, 3, 4, 5, 6, 7, 8, 9, 10, 11, 12, 13, 14] rfl) (hD.sub (ws' := ((a0, .inr (9, [g8, g9, g10, .ref a2, g11, g12, g13, g14, g15, g16, g17, g18, g19, g20, g21, .ref a3, g22, g23, g24, g25, g26, g27, g28, g29, .int v12_m_k.1, .int v12_m_k.2.1, .int v12_m_k.2.2, g30, g31, g32])) :: bX11 a2 uq kq q_q ([(a3, .inl (cB34, 26, .inl m_v))]))) [0, 1, 2, 3, 4, 5, 6, 7, 8, 9, 10, 11, 12, 13, 14, 15, 16] (by decide) rfl) hN 0 rfl rfl) rfl rfl hl.1 rfl (lv_room (Nat.le_of_ble_eq_true rfl)) dX12_loads_103 ⟨(Nat.le_of_ble_eq_true rfl), (Nat.le_of_ble_eq_true rfl)⟩) hP hD hK hS hA [0, 1, 2, 3, 4, 5, 6, 7, 8, 9, 10, 11, 12, 13, 14, 15, 16] [] rfl rfl (by decide) (by decide) (fun r103 _ H locs hw hP hD _ hS => ?_)
                        obtain rfl := hw.symm
                        have hP : va_P (dC, dI) vwCl ((a0, .inr (9, [g8, g9, g10, .ref a2, g11, g12, g13, g14, g15, g16, g17, g18, g19, g20, g21, .ref a3, g22, g23, g24, g25, g26, g27, g28, g29, .int v12_m_k.1, .int v12_m_k.2.1, .int v12_m_k.2.2, g30, g31, g32])) :: bX11 a2 uq kq q_q ([(a3, .inl (cB34, 26, .inl m_v))])) H := hP
                        have hD : va_D A ((a0, .inr (9, [g8, g9, g10, .ref a2, g11, g12, g13, g14, g15, g16, g17, g18, g19, g20, g21, .ref a3, g22, g23, g24, g25, g26, g27, g28, g29, .int v12_m_k.1, .int v12_m_k.2.1, .int v12_m_k.2.2, g30, g31, g32])) :: bX11 a2 uq kq q_q ([(a3, .inl (cB34, 26, .inl m_v))])) := hD
                        refine lv_goto (tgt := 110) hx hb dX12_loads_106 (by decide) ?_
                        exact J110 o103 H _ ls h  hP hD hS (lv_sub hl [0, 1, 3, 4, 5] rfl)
                    refine lv_icmp_ne (tgt := 91) hx hb dX12_loads_84 (by decide) (fun c84 => ?_) (fun c84 => ?_)
                    · have h := (if_neg c84).symm.trans h
                      refine lv_iconst (v := 0) hx hb dX12_loads_91 (by decide) ?_
                      exact J92 (0 : Int32) H _ ls h (by decide) hP hD hS (lv_sub hl [0, 2, 3, 4, 5] rfl)
                    · have h := (if_pos c84).symm.trans h
                      refine lv_iconst (v := 1) hx hb dX12_loads_87 (by decide) ?_
                      refine lv_goto (tgt := 92) hx hb dX12_loads_88 (by decide) ?_
                      exact J92 (1 : Int32) H _ ls h (by decide) hP hD hS (lv_sub hl [0, 2, 3, 4, 5] rfl)
                  · have h := (if_pos c68).symm.trans h
                    refine lv_goto (tgt := 112) hx hb dX12_loads_71 (by decide) ?_
                    exact J112 v45_l4 v45_l3 H _ ls h zb_v45_l4 hP hD hS (lv_sub hl [0, 1, 2, 3, 4, 5] rfl)
          exact L45 FU (0 : Int32) v40_t0 (0 : Int32) H _ ls h zb_v40_t0 hP hD hS (lv_sub hl [0, 1, 2, 3, 4, 5] rfl)
        refine lv_icmp_gt (tgt := 39) hx hb dX12_loads_32 (by decide) (fun c32 => ?_) (fun c32 => ?_)
        · have h := (if_pos c32).symm.trans h
          refine lv_iconst (v := 0) hx hb dX12_loads_39 (by decide) ?_
          exact J40 (0 : Int32) H _ ls h (by decide) hP hD hS (lv_sub hl [0, 1, 2, 3] rfl)
        · have h := (if_neg c32).symm.trans h
          refine lv_iconst (v := 1) hx hb dX12_loads_35 (by decide) ?_
          refine lv_goto (tgt := 40) hx hb dX12_loads_36 (by decide) ?_
          exact J40 (1 : Int32) H _ ls h (by decide) hP hD hS (lv_sub hl [0, 1, 2, 3] rfl)
  exact L12 FU (1 : Int32) (m_k.1, (0 : Int32), (0 : Int32)) H _ ls h  hP hD hS (lv_sub hl [0, 1, 2] rfl)
