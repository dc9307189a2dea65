noncomputable def zrX12_leaves_0 : List ZR := zc 0 true (.iconst 0) 1 (zc 1 true (.istore_n 2) 1 (zc 2 true (.iconst 0) 1 (zc 3 true (.istore_n 3) 1 (zc 4 true (.iconst 0) 1 (zc 5 true (.istore 4) 2 (zc 7 true (.iload 4) 2 (zc 9 true (.aload_n 0) 1 (zc 10 true (.getfield 299) 3 (zc 13 true (.invokevirtual 374) 3 (zc 16 true (.if_icmp .ge 75) 3 (zc 19 true (.aload_n 0) 1 (zc 20 true (.iload 4) 2 (zc 22 true (.invokevirtual 420) 3 (zc 25 true (.ifCond .ne 6) 3 (zc 28 true (.goto 57) 3 (zc 31 true (.aload_n 0) 1 (zc 32 true (.getfield 299) 3 (zc 35 true (.aload_n 0) 1 (zc 36 true (.iload 4) 2 (zc 38 true (.invokevirtual 307) 3 (zc 41 true (.aload_n 0) 1 (zc 42 true (.iload 4) 2 (zc 44 true (.invokevirtual 310) 3 (zc 47 true (.aload_n 0) 1 (zc 48 true (.iload 4) 2 (zc 50 true (.invokevirtual 313) 3 (zc 53 true (.aload_n 0) 1 (zc 54 true (.iload_n 1) 1 (zc 55 true (.invokevirtual 307) 3 (zc 58 true (.aload_n 0) 1 (zc 59 true (.iload_n 1) 1 (zc 60 true (.invokevirtual 310) 3 (zc 63 true (.aload_n 0) 1 (zc 64 true (.iload_n 1) 1 (zc 65 true (.invokevirtual 313) 3 (zc 68 true (.invokevirtual 423) 3 (zc 71 true (.bipush 50) 2 (zc 73 true (.if_icmp .lt 9) 3 (zc 76 true (.iinc 2 1) 3 (zc 79 true (.goto 6) 3 (zc 82 true (.iinc 3 1) 3 (zc 85 true (.iinc 4 1) 3 (zc 88 true (.goto (-81)) 3 (zc 91 true (.iload_n 2) 1 (zc 92 true (.iload_n 3) 1 (zc 93 true (.if_icmp .le 7) 3 (zc 96 true (.iload_n 2) 1 (zc 97 true (.goto 4) 3 (zc 100 true (.iload_n 3) 1 (zc 101 true (.ireturn) 1 ([])))))))))))))))))))))))))))))))))))))))))))))))))))
theorem zrX12_leaves_0_ok : zck 0 ((zby cX12_leaves).drop 0) zrX12_leaves_0 = true := by decide +kernel
def vfX12_leaves : List Cond := List.cons (.code yX12_leaves cX12_leaves 5 (some .int)) (apW [.fieldLink RX12 299 "HookPierModel" "pier" "LHookPierModel$Pier;", .methodLink RX12 374 yX11_questions, .instanceMethod yX11_questions, .selects RX11 yX11_questions yX11_questions, .initialized RX11, .methodLink RX12 420 yX12_isDark, .instanceMethod yX12_isDark, .selects RX12 yX12_isDark yX12_isDark, .initialized RX12, .methodLink RX12 307 yX12_spotOf, .instanceMethod yX12_spotOf, .selects RX12 yX12_spotOf yX12_spotOf, .methodLink RX12 310 yX12_fathomsOf, .instanceMethod yX12_fathomsOf, .selects RX12 yX12_fathomsOf yX12_fathomsOf, .methodLink RX12 313 yX12_baitOf, .instanceMethod yX12_baitOf, .selects RX12 yX12_baitOf yX12_baitOf, .methodLink RX12 423 yX11_darkWish, .instanceMethod yX11_darkWish, .selects RX11 yX11_darkWish yX11_darkWish] (apW wsX120 (apW vfX11_questions (apW vfX12_isDark (apW vfX12_spotOf (apW vfX12_fathomsOf (apW vfX12_baitOf (vfX11_darkWish))))))))
theorem ifX12_leaves_X12 : ∀ w ∈ wsX120, w ∈ vfX12_leaves := fun _ h => (List.mem_cons_of_mem _ (List.mem_append_right _ (List.mem_append_left _ h)))
theorem qfX12_leaves : Good vfX12_leaves := gd_cons (by decide +kernel) (gd_app (gd_dec (by decide +kernel) : Good [.fieldLink RX12 299 "HookPierModel" "pier" "LHookPierModel$Pier;", .methodLink RX12 374 yX11_questions, .instanceMethod yX11_questions, .selects RX11 yX11_questions yX11_questions, .initialized RX11, .methodLink RX12 420 yX12_isDark, .instanceMethod yX12_isDark, .selects RX12 yX12_isDark yX12_isDark, .initialized RX12, .methodLink RX12 307 yX12_spotOf, .instanceMethod yX12_spotOf, .selects RX12 yX12_spotOf yX12_spotOf, .methodLink RX12 310 yX12_fathomsOf, .instanceMethod yX12_fathomsOf, .selects RX12 yX12_fathomsOf yX12_fathomsOf, .methodLink RX12 313 yX12_baitOf, .instanceMethod yX12_baitOf, .selects RX12 yX12_baitOf yX12_baitOf, .methodLink RX12 423 yX11_darkWish, .instanceMethod yX11_darkWish, .selects RX11 yX11_darkWish yX11_darkWish]) (gd_app qsX12 (gd_app qfX11_questions (gd_app qfX12_isDark (gd_app qfX12_spotOf (gd_app qfX12_fathomsOf (gd_app qfX12_baitOf qfX11_darkWish)))))))
theorem gfX12_leaves_0 : GoodIn vfX12_leaves (wsV RX12 374 RX11 yX11_questions vfX11_questions) := goodIn_app (goodIn_r [.methodLink RX12 374 yX11_questions, .instanceMethod yX11_questions, .selects RX11 yX11_questions yX11_questions, .initialized RX11] [2, 3, 4, 5] rfl (by decide +kernel)) (goodIn_m (fun _ h => (List.mem_cons_of_mem _ (List.mem_append_right _ (List.mem_append_right _ (List.mem_append_left _ h))))) qfX11_questions)
theorem gfX12_leaves_1 : GoodIn vfX12_leaves (wsV RX12 420 RX12 yX12_isDark vfX12_isDark) := goodIn_app (goodIn_r [.methodLink RX12 420 yX12_isDark, .instanceMethod yX12_isDark, .selects RX12 yX12_isDark yX12_isDark, .initialized RX12] [6, 7, 8, 9] rfl (by decide +kernel)) (goodIn_m (fun _ h => (List.mem_cons_of_mem _ (List.mem_append_right _ (List.mem_append_right _ (List.mem_append_right _ (List.mem_append_left _ h)))))) qfX12_isDark)
theorem gfX12_leaves_2 : GoodIn vfX12_leaves (wsV RX12 307 RX12 yX12_spotOf vfX12_spotOf) := goodIn_app (goodIn_r [.methodLink RX12 307 yX12_spotOf, .instanceMethod yX12_spotOf, .selects RX12 yX12_spotOf yX12_spotOf, .initialized RX12] [10, 11, 12, 9] rfl (by decide +kernel)) (goodIn_m (fun _ h => (List.mem_cons_of_mem _ (List.mem_append_right _ (List.mem_append_right _ (List.mem_append_right _ (List.mem_append_right _ (List.mem_append_left _ h))))))) qfX12_spotOf)
theorem gfX12_leaves_3 : GoodIn vfX12_leaves (wsV RX12 310 RX12 yX12_fathomsOf vfX12_fathomsOf) := goodIn_app (goodIn_r [.methodLink RX12 310 yX12_fathomsOf, .instanceMethod yX12_fathomsOf, .selects RX12 yX12_fathomsOf yX12_fathomsOf, .initialized RX12] [13, 14, 15, 9] rfl (by decide +kernel)) (goodIn_m (fun _ h => (List.mem_cons_of_mem _ (List.mem_append_right _ (List.mem_append_right _ (List.mem_append_right _ (List.mem_append_right _ (List.mem_append_right _ (List.mem_append_left _ h)))))))) qfX12_fathomsOf)
theorem gfX12_leaves_4 : GoodIn vfX12_leaves (wsV RX12 313 RX12 yX12_baitOf vfX12_baitOf) := goodIn_app (goodIn_r [.methodLink RX12 313 yX12_baitOf, .instanceMethod yX12_baitOf, .selects RX12 yX12_baitOf yX12_baitOf, .initialized RX12] [16, 17, 18, 9] rfl (by decide +kernel)) (goodIn_m (fun _ h => (List.mem_cons_of_mem _ (List.mem_append_right _ (List.mem_append_right _ (List.mem_append_right _ (List.mem_append_right _ (List.mem_append_right _ (List.mem_append_right _ (List.mem_append_left _ h))))))))) qfX12_baitOf)
theorem gfX12_leaves_5 : GoodIn vfX12_leaves (wsV RX12 423 RX11 yX11_darkWish vfX11_darkWish) := goodIn_app (goodIn_r [.methodLink RX12 423 yX11_darkWish, .instanceMethod yX11_darkWish, .selects RX11 yX11_darkWish yX11_darkWish, .initialized RX11] [19, 20, 21, 5] rfl (by decide +kernel)) (goodIn_m (fun _ h => (List.mem_cons_of_mem _ (List.mem_append_right _ (List.mem_append_right _ (List.mem_append_right _ (List.mem_append_right _ (List.mem_append_right _ (List.mem_append_right _ (List.mem_append_right _ h))))))))) qfX11_darkWish)
set_option maxHeartbeats 2000000 in
set_option maxRecDepth 100000 in
theorem kfX12_leaves (l : Launch) (dC : Nat → ClassId) (dI : Nat → Nat → Nat) (a0 : Nat) (k1 : Int32) (a2 : Nat) (uq : Nat → Nat) (kq : Nat → ClassId) (g5 : Value) (g6 : Value) (g7 : Value) (g8 : Value) (g9 : Value) (g10 : Value) (g11 : Value) (g12 : Value) (g13 : Value) (g14 : Value) (g15 : Value) (g16 : Value) (g17 : Value) (g18 : Value) (g19 : Value) (g20 : Value) (g21 : Value) (g22 : Value) (g23 : Value) (g24 : Value) (g25 : Value) (g26 : Value) (g27 : Value) (g28 : Value) (g29 : Value) (g30 : Value) (g31 : Value) (g32 : Value) (g33 : Value) (q_q : TX11_q) (sz : Nat) (out : Int32) (h : f_X12_leaves k1 q_q = some out) : KDi l yX12_leaves vfX12_leaves ({ frames := 4, cells := 0, slots := 0, locals := 92 }) (dC, dI) [.ref a0, .int k1] sz ((a0, .inr (9, [g5, g6, g7, .ref a2, g8, g9, g10, g11, g12, g13, g14, g15, g16, g17, g18, g19, g20, g21, g22, g23, g24, g25, g26, g27, g28, g29, g30, g31, g32, g33])) :: bX11 a2 uq kq q_q []) (tX11 kq ([])) (fun (r : Int32) _ => r = out) 0 0 := by
  refine Met.ofW (cc := cX12_leaves) (maxL := 5) (ret := (some .int)) (by decide) rfl ?_
  intro p e s m args below meth c s₁ B0 hml hv
  obtain ⟨rfl, hsz, hP, hK, hD0, hN⟩ := hv
  have hx := B0.exec
  have hb := B0.bytes
  have hr := B0.returns
  have hts := atoms_spec (ws := vfX12_leaves) B0.pre
  have hown : s.vm.findClass RX12 = some m.cls := findClass_of_methodNamed B0.named
  have hlocks := B0.notSynchronized
  subst hsz
  have hD := hD0.self (sz := s.heap.size)
  generalize hAe : va_A ((a0, .inr (9, [g5, g6, g7, .ref a2, g8, g9, g10, g11, g12, g13, g14, g15, g16, g17, g18, g19, g20, g21, g22, g23, g24, g25, g26, g27, g28, g29, g30, g31, g32, g33])) :: bX11 a2 uq kq q_q []) s.heap.size = A at hD ⊢
  have hA : ∀ q : Nat, s.heap.size ≤ q → A q := fun q h => by rw [← hAe]; exact Or.inr h
  have hS : va_S A s.heap s.heap [] := va_S.rf
  have hP : va_P (dC, dI) vwCl ((a0, .inr (9, [g5, g6, g7, .ref a2, g8, g9, g10, g11, g12, g13, g14, g15, g16, g17, g18, g19, g20, g21, g22, g23, g24, g25, g26, g27, g28, g29, g30, g31, g32, g33])) :: bX11 a2 uq kq q_q []) s.heap := hP
  have hl := lv_entry ([.ref a0, .int k1]) (n := 5) (Nat.le_of_ble_eq_true rfl)
  rw [lg_entry_eq]
  generalize (lg_sl ([.ref a0, .int k1]) ++ List.replicate (5 - (lg_sl ([.ref a0, .int k1])).length) Slot.unset).toArray = ls at hl ⊢
  have hl : lv_has ls 5 [(0, .ref a0), (1, .int k1)] := hl
  refine W_q (fun QQ hQQ => ?_)
  rw [f_X12_leaves] at h
  refine lv_iconst (v := 0) hx hb (zat zrX12_leaves_0_ok 0 rfl) (by decide) ?_
  refine lv_istore_n (lv' := [(2, .int 0), (0, .ref a0), (1, .int k1)]) hx hb (zat zrX12_leaves_0_ok 1 rfl) rfl hl (by decide) rfl (fun ls hl => ?_)
  refine lv_iconst (v := 0) hx hb (zat zrX12_leaves_0_ok 2 rfl) (by decide) ?_
  refine lv_istore_n (lv' := [(3, .int 0), (2, .int 0), (0, .ref a0), (1, .int k1)]) hx hb (zat zrX12_leaves_0_ok 3 rfl) rfl hl (by decide) rfl (fun ls hl => ?_)
  refine lv_iconst (v := 0) hx hb (zat zrX12_leaves_0_ok 4 rfl) (by decide) ?_
  refine lv_istore (lv' := [(4, .int 0), (3, .int 0), (2, .int 0), (0, .ref a0), (1, .int k1)]) hx hb (zat zrX12_leaves_0_ok 5 rfl) hl (by decide) rfl (fun ls hl => ?_)
  have L7 : ∀ (n7 : Nat) (v7_l4 : Int32) (v7_l3 : Int32) (v7_l2 : Int32) (H : Heap) (locs : List Loc) (ls : Array Slot), f_X12_leaves_L7 k1 q_q n7 v7_l4 v7_l3 v7_l2 = some out → va_P (dC, dI) vwCl ((a0, .inr (9, [g5, g6, g7, .ref a2, g8, g9, g10, g11, g12, g13, g14, g15, g16, g17, g18, g19, g20, g21, g22, g23, g24, g25, g26, g27, g28, g29, g30, g31, g32, g33])) :: bX11 a2 uq kq q_q []) H → va_D A ((a0, .inr (9, [g5, g6, g7, .ref a2, g8, g9, g10, g11, g12, g13, g14, g15, g16, g17, g18, g19, g20, g21, g22, g23, g24, g25, g26, g27, g28, g29, g30, g31, g32, g33])) :: bX11 a2 uq kq q_q []) → va_S A s.heap H locs → lv_has ls 5 [(4, .int v7_l4), (3, .int v7_l3), (2, .int v7_l2), (0, .ref a0), (1, .int k1)] → W p l e (headSpec vfX12_leaves { frames := 4, cells := 0, slots := 0, locals := 92 }).room s m ([.ref a0, .int k1]).toArray below meth c H locs 0 0 QQ (F0 m 7 ls []) := by
    intro n7
    induction n7 with
    | zero =>
      intro v7_l4 v7_l3 v7_l2 H locs ls h  _ _ _ _
      rw [f_X12_leaves_L7] at h
      cases h
    | succ n7 ih7 =>
      intro v7_l4 v7_l3 v7_l2 H locs ls h  hP hD hS hl
      rw [f_X12_leaves_L7] at h
      refine lv_iload hx hb (zat zrX12_leaves_0_ok 6 rfl) (lv_at hl 0 rfl) ?_
      refine lv_aload_n hx hb (zat zrX12_leaves_0_ok 7 rfl) rfl (lv_at hl 3 rfl) ?_
      refine va_get (D := (dC, dI)) (ci := 9) (v := .ref a2) (C := RX12) (T := TX12) (N := 30) hx hb hts ifX12_leaves_X12 hown hK hP 0 rfl rfl 3 (by decide) (hts (.fieldLink RX12 299 "HookPierModel" "pier" "LHookPierModel$Pier;") (List.mem_of_getElem? (i := 1) rfl)) (fun _ h9 => h9) rfl (zat zrX12_leaves_0_ok 8 rfl) ?_
      obtain ⟨o13, eo13⟩ : ∃ o, o = f_X11_questions q_q := ⟨_, rfl⟩
      have h := nm_of h o13 eo13
      refine ck_i (wc := (bX11 a2 uq kq q_q [])) (wr := ([(a0, .inr (9, [g5, g6, g7, .ref a2, g8, g9, g10, g11, g12, g13, g14, g15, g16, g17, g18, g19, g20, g21, g22, g23, g24, g25, g26, g27, g28, g29, g30, g31, g32, g33]))])) hP hD hK hS hA [1, 2, 3, 4, 5, 6, 7, 8, 9, 10, 11, 12, 13, 14, 15] [0] rfl rfl (by decide) (by decide) (by decide) (fun hPc hDc => (va_runV (As := []) (rest := [.int v7_l4]) ⟨hx, hb, hml, hown, hts⟩ (kfX11_questions l dC dI a2 uq kq q_q H.size o13 eo13.symm) (cwV 0 hts gfX12_leaves_0 rfl rfl rfl (by decide +kernel) ⟨(Nat.le_of_ble_eq_true rfl), (Nat.le_of_ble_eq_true rfl)⟩) (PV hPc (hK.sub (tys' := (tX11 kq ([]))) [0, 1, 2, 3, 4, 5, 6, 7, 8, 9, 10, 11, 12, 13] rfl) hDc hN 0 rfl rfl) rfl rfl hl.1 rfl (lv_room (Nat.le_of_ble_eq_true rfl)) (zat zrX12_leaves_0_ok 9 rfl) ⟨(Nat.le_of_ble_eq_true rfl), (Nat.le_of_ble_eq_true rfl)⟩)) (fun r13 _ H locs hw hP hD _ hS => ?_)
      obtain rfl := hw.symm
      obtain ⟨hP, hD⟩ := pd_mk ((a0, .inr (9, [g5, g6, g7, .ref a2, g8, g9, g10, g11, g12, g13, g14, g15, g16, g17, g18, g19, g20, g21, g22, g23, g24, g25, g26, g27, g28, g29, g30, g31, g32, g33])) :: bX11 a2 uq kq q_q []) hP hD
      refine lv_icmp_ge (tgt := 91) hx hb (zat zrX12_leaves_0_ok 10 rfl) (by decide) (fun c16 => ?_) (fun c16 => ?_)
      · have h := (if_pos c16).symm.trans h
        refine lv_iload_n hx hb (zat zrX12_leaves_0_ok 44 rfl) rfl (lv_at hl 2 rfl) ?_
        refine lv_iload_n hx hb (zat zrX12_leaves_0_ok 45 rfl) rfl (lv_at hl 1 rfl) ?_
        refine lv_icmp_le (tgt := 100) hx hb (zat zrX12_leaves_0_ok 46 rfl) (by decide) (fun c93 => ?_) (fun c93 => ?_)
        · have h := (if_pos c93).symm.trans h
          refine lv_iload_n hx hb (zat zrX12_leaves_0_ok 49 rfl) rfl (lv_at hl 1 rfl) ?_
          obtain rfl := Option.some.inj h
          obtain ⟨hP9, hD9⟩ := pd_sub ((a0, .inr (9, [g5, g6, g7, .ref a2, g8, g9, g10, g11, g12, g13, g14, g15, g16, g17, g18, g19, g20, g21, g22, g23, g24, g25, g26, g27, g28, g29, g30, g31, g32, g33])) :: bX11 a2 uq kq q_q []) [0, 1, 2, 3, 4, 5, 6, 7, 8, 9, 10, 11, 12, 13, 14, 15] hP hD (by decide) rfl
          have hK9 := hK.sub (tys' := []) [] rfl
          rw [hQQ]
          exact W.iret (v := v7_l3) hx hb hr (fun t ht hW => ⟨⟨v7_l3, (), rfl, rfl, by rw [ht]; exact hP9, va_K.moved hW.alike hK9, hD9⟩, hS.F ht⟩) hS.2.2 (zat zrX12_leaves_0_ok 50 rfl)
        · have h := (if_neg c93).symm.trans h
          refine lv_iload_n hx hb (zat zrX12_leaves_0_ok 47 rfl) rfl (lv_at hl 2 rfl) ?_
          refine lv_goto (tgt := 101) hx hb (zat zrX12_leaves_0_ok 48 rfl) (by decide) ?_
          obtain rfl := Option.some.inj h
          obtain ⟨hP9, hD9⟩ := pd_sub ((a0, .inr (9, [g5, g6, g7, .ref a2, g8, g9, g10, g11, g12, g13, g14, g15, g16, g17, g18, g19, g20, g21, g22, g23, g24, g25, g26, g27, g28, g29, g30, g31, g32, g33])) :: bX11 a2 uq kq q_q []) [0, 1, 2, 3, 4, 5, 6, 7, 8, 9, 10, 11, 12, 13, 14, 15] hP hD (by decide) rfl
          have hK9 := hK.sub (tys' := []) [] rfl
          rw [hQQ]
          exact W.iret (v := v7_l2) hx hb hr (fun t ht hW => ⟨⟨v7_l2, (), rfl, rfl, by rw [ht]; exact hP9, va_K.moved hW.alike hK9, hD9⟩, hS.F ht⟩) hS.2.2 (zat zrX12_leaves_0_ok 50 rfl)
      · have h := (if_neg c16).symm.trans h
        refine lv_aload_n hx hb (zat zrX12_leaves_0_ok 11 rfl) rfl (lv_at hl 3 rfl) ?_
        refine lv_iload hx hb (zat zrX12_leaves_0_ok 12 rfl) (lv_at hl 0 rfl) ?_
        obtain ⟨o22, eo22, h⟩ := bd_of h
        refine ck_i (wc := ((a0, .inr (9, [g5, g6, g7, .ref a2, g8, g9, g10, g11, g12, g13, g14, g15, g16, g17, g18, g19, g20, g21, g22, g23, g24, g25, g26, g27, g28, g29, g30, g31, g32, g33])) :: bX11 a2 uq kq q_q [])) (wr := []) hP hD hK hS hA [0, 1, 2, 3, 4, 5, 6, 7, 8, 9, 10, 11, 12, 13, 14, 15] [] rfl rfl (by decide) (by decide) (by decide) (fun hPc hDc => (va_runV (As := [.int v7_l4]) (rest := []) ⟨hx, hb, hml, hown, hts⟩ (kfX12_isDark l dC dI a0 v7_l4 a2 uq kq (g5) (g6) (g7) (g8) (g9) (g10) (g11) (g12) (g13) (g14) (g15) (g16) (g17) (g18) (g19) (g20) (g21) (g22) (g23) (g24) (g25) (g26) (g27) (g28) (g29) (g30) (g31) (g32) (g33) q_q H.size o22 eo22) (cwV 1 hts gfX12_leaves_1 rfl rfl rfl (by decide +kernel) ⟨(Nat.le_of_ble_eq_true rfl), (Nat.le_of_ble_eq_true rfl)⟩) (PV hPc (hK.sub (tys' := (tX11 kq ([]))) [0, 1, 2, 3, 4, 5, 6, 7, 8, 9, 10, 11, 12, 13] rfl) hDc hN 0 rfl rfl) rfl rfl hl.1 rfl (lv_room (Nat.le_of_ble_eq_true rfl)) (zat zrX12_leaves_0_ok 13 rfl) ⟨(Nat.le_of_ble_eq_true rfl), (Nat.le_of_ble_eq_true rfl)⟩)) (fun r22 _ H locs hw hP hD _ hS => ?_)
        obtain ⟨hw, br22⟩ := hw
        obtain rfl := hw.symm
        obtain ⟨hP, hD⟩ := pd_mk ((a0, .inr (9, [g5, g6, g7, .ref a2, g8, g9, g10, g11, g12, g13, g14, g15, g16, g17, g18, g19, g20, g21, g22, g23, g24, g25, g26, g27, g28, g29, g30, g31, g32, g33])) :: bX11 a2 uq kq q_q []) hP hD
        have J85 : ∀ (v85_l3 : Int32) (v85_l2 : Int32) (H : Heap) (locs : List Loc) (ls : Array Slot), f_X12_leaves_J85 (f_X12_leaves_L7 k1 q_q n7) v7_l4 v85_l3 v85_l2 = some out → va_P (dC, dI) vwCl ((a0, .inr (9, [g5, g6, g7, .ref a2, g8, g9, g10, g11, g12, g13, g14, g15, g16, g17, g18, g19, g20, g21, g22, g23, g24, g25, g26, g27, g28, g29, g30, g31, g32, g33])) :: bX11 a2 uq kq q_q []) H → va_D A ((a0, .inr (9, [g5, g6, g7, .ref a2, g8, g9, g10, g11, g12, g13, g14, g15, g16, g17, g18, g19, g20, g21, g22, g23, g24, g25, g26, g27, g28, g29, g30, g31, g32, g33])) :: bX11 a2 uq kq q_q []) → va_S A s.heap H locs → lv_has ls 5 [(3, .int v85_l3), (4, .int v7_l4), (2, .int v85_l2), (0, .ref a0), (1, .int k1)] → W p l e (headSpec vfX12_leaves { frames := 4, cells := 0, slots := 0, locals := 92 }).room s m ([.ref a0, .int k1]).toArray below meth c H locs 0 0 QQ (F0 m 85 ls []) := by
          intro v85_l3 v85_l2 H locs ls h  hP hD hS hl
          rw [f_X12_leaves_J85] at h
          refine lv_iinc (v := (v7_l4 + (1 : Int32))) (lv' := [(4, .int (v7_l4 + (1 : Int32))), (3, .int v85_l3), (2, .int v85_l2), (0, .ref a0), (1, .int k1)]) hx hb (zat zrX12_leaves_0_ok 42 rfl) hl (k := 1) rfl rfl (by decide) rfl (fun ls hl => ?_)
          refine lv_goto (tgt := 7) hx hb (zat zrX12_leaves_0_ok 43 rfl) (by decide) ?_
          exact ih7 (v7_l4 + (1 : Int32)) v85_l3 v85_l2 H _ ls h  hP hD hS (lv_sub hl [0, 1, 2, 3, 4] rfl)
        refine lv_if_ne (tgt := 31) hx hb (zat zrX12_leaves_0_ok 14 rfl) (by decide) (fun c25 => ?_) (fun c25 => ?_)
        · have h := (if_neg c25).symm.trans h
          refine lv_aload_n hx hb (zat zrX12_leaves_0_ok 16 rfl) rfl (lv_at hl 3 rfl) ?_
          refine va_get (D := (dC, dI)) (ci := 9) (v := .ref a2) (C := RX12) (T := TX12) (N := 30) hx hb hts ifX12_leaves_X12 hown hK hP 0 rfl rfl 3 (by decide) (hts (.fieldLink RX12 299 "HookPierModel" "pier" "LHookPierModel$Pier;") (List.mem_of_getElem? (i := 1) rfl)) (fun _ h9 => h9) rfl (zat zrX12_leaves_0_ok 17 rfl) ?_
          refine lv_aload_n hx hb (zat zrX12_leaves_0_ok 18 rfl) rfl (lv_at hl 3 rfl) ?_
          refine lv_iload hx hb (zat zrX12_leaves_0_ok 19 rfl) (lv_at hl 0 rfl) ?_
          obtain ⟨o38, eo38, h⟩ := bd_of h
          refine ck_i (wc := ((a0, .inr (9, [g5, g6, g7, .ref a2, g8, g9, g10, g11, g12, g13, g14, g15, g16, g17, g18, g19, g20, g21, g22, g23, g24, g25, g26, g27, g28, g29, g30, g31, g32, g33])) :: bX11 a2 uq kq q_q [])) (wr := []) hP hD hK hS hA [0, 1, 2, 3, 4, 5, 6, 7, 8, 9, 10, 11, 12, 13, 14, 15] [] rfl rfl (by decide) (by decide) (by decide) (fun hPc hDc => (va_runV (As := [.int v7_l4]) (rest := [.ref a2]) ⟨hx, hb, hml, hown, hts⟩ (kfX12_spotOf l dC dI a0 v7_l4 a2 uq kq (g5) (g6) (g7) (g8) (g9) (g10) (g11) (g12) (g13) (g14) (g15) (g16) (g17) (g18) (g19) (g20) (g21) (g22) (g23) (g24) (g25) (g26) (g27) (g28) (g29) (g30) (g31) (g32) (g33) q_q H.size o38 eo38) (cwV 1 hts gfX12_leaves_2 rfl rfl rfl (by decide +kernel) ⟨(Nat.le_of_ble_eq_true rfl), (Nat.le_of_ble_eq_true rfl)⟩) (PV hPc (hK.sub (tys' := (tX11 kq ([]))) [0, 1, 2, 3, 4, 5, 6, 7, 8, 9, 10, 11, 12, 13] rfl) hDc hN 0 rfl rfl) rfl rfl hl.1 rfl (lv_room (Nat.le_of_ble_eq_true rfl)) (zat zrX12_leaves_0_ok 20 rfl) ⟨(Nat.le_of_ble_eq_true rfl), (Nat.le_of_ble_eq_true rfl)⟩)) (fun r38 _ H locs hw hP hD _ hS => ?_)
          obtain rfl := hw.symm
          obtain ⟨hP, hD⟩ := pd_mk ((a0, .inr (9, [g5, g6, g7, .ref a2, g8, g9, g10, g11, g12, g13, g14, g15, g16, g17, g18, g19, g20, g21, g22, g23, g24, g25, g26, g27, g28, g29, g30, g31, g32, g33])) :: bX11 a2 uq kq q_q []) hP hD
          refine lv_aload_n hx hb (zat zrX12_leaves_0_ok 21 rfl) rfl (lv_at hl 3 rfl) ?_
          refine lv_iload hx hb (zat zrX12_leaves_0_ok 22 rfl) (lv_at hl 0 rfl) ?_
          obtain ⟨o44, eo44, h⟩ := bd_of h
          refine ck_i (wc := ((a0, .inr (9, [g5, g6, g7, .ref a2, g8, g9, g10, g11, g12, g13, g14, g15, g16, g17, g18, g19, g20, g21, g22, g23, g24, g25, g26, g27, g28, g29, g30, g31, g32, g33])) :: bX11 a2 uq kq q_q [])) (wr := []) hP hD hK hS hA [0, 1, 2, 3, 4, 5, 6, 7, 8, 9, 10, 11, 12, 13, 14, 15] [] rfl rfl (by decide) (by decide) (by decide) (fun hPc hDc => (va_runV (As := [.int v7_l4]) (rest := [.int o38, .ref a2]) ⟨hx, hb, hml, hown, hts⟩ (kfX12_fathomsOf l dC dI a0 v7_l4 a2 uq kq (g5) (g6) (g7) (g8) (g9) (g10) (g11) (g12) (g13) (g14) (g15) (g16) (g17) (g18) (g19) (g20) (g21) (g22) (g23) (g24) (g25) (g26) (g27) (g28) (g29) (g30) (g31) (g32) (g33) q_q H.size o44 eo44) (cwV 1 hts gfX12_leaves_3 rfl rfl rfl (by decide +kernel) ⟨(Nat.le_of_ble_eq_true rfl), (Nat.le_of_ble_eq_true rfl)⟩) (PV hPc (hK.sub (tys' := (tX11 kq ([]))) [0, 1, 2, 3, 4, 5, 6, 7, 8, 9, 10, 11, 12, 13] rfl) hDc hN 0 rfl rfl) rfl rfl hl.1 rfl (lv_room (Nat.le_of_ble_eq_true rfl)) (zat zrX12_leaves_0_ok 23 rfl) ⟨(Nat.le_of_ble_eq_true rfl), (Nat.le_of_ble_eq_true rfl)⟩)) (fun r44 _ H locs hw hP hD _ hS => ?_)
          obtain rfl := hw.symm
          obtain ⟨hP, hD⟩ := pd_mk ((a0, .inr (9, [g5, g6, g7, .ref a2, g8, g9, g10, g11, g12, g13, g14, g15, g16, g17, g18, g19, g20, g21, g22, g23, g24, g25, g26, g27, g28, g29, g30, g31, g32, g33])) :: bX11 a2 uq kq q_q []) hP hD
          refine lv_aload_n hx hb (zat zrX12_leaves_0_ok 24 rfl) rfl (lv_at hl 3 rfl) ?_
          refine lv_iload hx hb (zat zrX12_leaves_0_ok 25 rfl) (lv_at hl 0 rfl) ?_
          obtain ⟨o50, eo50, h⟩ := bd_of h
          refine ck_i (wc := ((a0, .inr (9, [g5, g6, g7, .ref a2, g8, g9, g10, g11, g12, g13, g14, g15, g16, g17, g18, g19, g20, g21, g22, g23, g24, g25, g26, g27, g28, g29, g30, g31, g32, g33])) :: bX11 a2 uq kq q_q [])) (wr := []) hP hD hK hS hA [0, 1, 2, 3, 4, 5, 6, 7, 8, 9, 10, 11, 12, 13, 14, 15] [] rfl rfl (by decide) (by decide) (by decide) (fun hPc hDc => (va_runV (As := [.int v7_l4]) (rest := [.int o44, .int o38, .ref a2]) ⟨hx, hb, hml, hown, hts⟩ (kfX12_baitOf l dC dI a0 v7_l4 a2 uq kq (g5) (g6) (g7) (g8) (g9) (g10) (g11) (g12) (g13) (g14) (g15) (g16) (g17) (g18) (g19) (g20) (g21) (g22) (g23) (g24) (g25) (g26) (g27) (g28) (g29) (g30) (g31) (g32) (g33) q_q H.size o50 eo50) (cwV 1 hts gfX12_leaves_4 rfl rfl rfl (by decide +kernel) ⟨(Nat.le_of_ble_eq_true rfl), (Nat.le_of_ble_eq_true rfl)⟩) (PV hPc (hK.sub (tys' := (tX11 kq ([]))) [0, 1, 2, 3, 4, 5, 6, 7, 8, 9, 10, 11, 12, 13] rfl) hDc hN 0 rfl rfl) rfl rfl hl.1 rfl (lv_room (Nat.le_of_ble_eq_true rfl)) (zat zrX12_leaves_0_ok 26 rfl) ⟨(Nat.le_of_ble_eq_true rfl), (Nat.le_of_ble_eq_true rfl)⟩)) (fun r50 _ H locs hw hP hD _ hS => ?_)
          obtain rfl := hw.symm
          obtain ⟨hP, hD⟩ := pd_mk ((a0, .inr (9, [g5, g6, g7, .ref a2, g8, g9, g10, g11, g12, g13, g14, g15, g16, g17, g18, g19, g20, g21, g22, g23, g24, g25, g26, g27, g28, g29, g30, g31, g32, g33])) :: bX11 a2 uq kq q_q []) hP hD
          refine lv_aload_n hx hb (zat zrX12_leaves_0_ok 27 rfl) rfl (lv_at hl 3 rfl) ?_
          refine lv_iload_n hx hb (zat zrX12_leaves_0_ok 28 rfl) rfl (lv_at hl 4 rfl) ?_
          obtain ⟨o55, eo55, h⟩ := bd_of h
          refine ck_i (wc := ((a0, .inr (9, [g5, g6, g7, .ref a2, g8, g9, g10, g11, g12, g13, g14, g15, g16, g17, g18, g19, g20, g21, g22, g23, g24, g25, g26, g27, g28, g29, g30, g31, g32, g33])) :: bX11 a2 uq kq q_q [])) (wr := []) hP hD hK hS hA [0, 1, 2, 3, 4, 5, 6, 7, 8, 9, 10, 11, 12, 13, 14, 15] [] rfl rfl (by decide) (by decide) (by decide) (fun hPc hDc => (va_runV (As := [.int k1]) (rest := [.int o50, .int o44, .int o38, .ref a2]) ⟨hx, hb, hml, hown, hts⟩ (kfX12_spotOf l dC dI a0 k1 a2 uq kq (g5) (g6) (g7) (g8) (g9) (g10) (g11) (g12) (g13) (g14) (g15) (g16) (g17) (g18) (g19) (g20) (g21) (g22) (g23) (g24) (g25) (g26) (g27) (g28) (g29) (g30) (g31) (g32) (g33) q_q H.size o55 eo55) (cwV 1 hts gfX12_leaves_2 rfl rfl rfl (by decide +kernel) ⟨(Nat.le_of_ble_eq_true rfl), (Nat.le_of_ble_eq_true rfl)⟩) (PV hPc (hK.sub (tys' := (tX11 kq ([]))) [0, 1, 2, 3, 4, 5, 6, 7, 8, 9, 10, 11, 12, 13] rfl) hDc hN 0 rfl rfl) rfl rfl hl.1 rfl (lv_room (Nat.le_of_ble_eq_true rfl)) (zat zrX12_leaves_0_ok 29 rfl) ⟨(Nat.le_of_ble_eq_true rfl), (Nat.le_of_ble_eq_true rfl)⟩)) (fun r55 _ H locs hw hP hD _ hS => ?_)
          obtain rfl := hw.symm
          obtain ⟨hP, hD⟩ := pd_mk ((a0, .inr (9, [g5, g6, g7, .ref a2, g8, g9, g10, g11, g12, g13, g14, g15, g16, g17, g18, g19, g20, g21, g22, g23, g24, g25, g26, g27, g28, g29, g30, g31, g32, g33])) :: bX11 a2 uq kq q_q []) hP hD
          refine lv_aload_n hx hb (zat zrX12_leaves_0_ok 30 rfl) rfl (lv_at hl 3 rfl) ?_
          refine lv_iload_n hx hb (zat zrX12_leaves_0_ok 31 rfl) rfl (lv_at hl 4 rfl) ?_
          obtain ⟨o60, eo60, h⟩ := bd_of h
          refine ck_i (wc := ((a0, .inr (9, [g5, g6, g7, .ref a2, g8, g9, g10, g11, g12, g13, g14, g15, g16, g17, g18, g19, g20, g21, g22, g23, g24, g25, g26, g27, g28, g29, g30, g31, g32, g33])) :: bX11 a2 uq kq q_q [])) (wr := []) hP hD hK hS hA [0, 1, 2, 3, 4, 5, 6, 7, 8, 9, 10, 11, 12, 13, 14, 15] [] rfl rfl (by decide) (by decide) (by decide) (fun hPc hDc => (va_runV (As := [.int k1]) (rest := [.int o55, .int o50, .int o44, .int o38, .ref a2]) ⟨hx, hb, hml, hown, hts⟩ (kfX12_fathomsOf l dC dI a0 k1 a2 uq kq (g5) (g6) (g7) (g8) (g9) (g10) (g11) (g12) (g13) (g14) (g15) (g16) (g17) (g18) (g19) (g20) (g21) (g22) (g23) (g24) (g25) (g26) (g27) (g28) (g29) (g30) (g31) (g32) (g33) q_q H.size o60 eo60) (cwV 1 hts gfX12_leaves_3 rfl rfl rfl (by decide +kernel) ⟨(Nat.le_of_ble_eq_true rfl), (Nat.le_of_ble_eq_true rfl)⟩) (PV hPc (hK.sub (tys' := (tX11 kq ([]))) [0, 1, 2, 3, 4, 5, 6, 7, 8, 9, 10, 11, 12, 13] rfl) hDc hN 0 rfl rfl) rfl rfl hl.1 rfl (lv_room (Nat.le_of_ble_eq_true rfl)) (zat zrX12_leaves_0_ok 32 rfl) ⟨(Nat.le_of_ble_eq_true rfl), (Nat.le_of_ble_eq_true rfl)⟩)) (fun r60 _ H locs hw hP hD _ hS => ?_)
          obtain rfl := hw.symm
          obtain ⟨hP, hD⟩ := pd_mk ((a0, .inr (9, [g5, g6, g7, .ref a2, g8, g9, g10, g11, g12, g13, g14, g15, g16, g17, g18, g19, g20, g21, g22, g23, g24, g25, g26, g27, g28, g29, g30, g31, g32, g33])) :: bX11 a2 uq kq q_q []) hP hD
          refine lv_aload_n hx hb (zat zrX12_leaves_0_ok 33 rfl) rfl (lv_at hl 3 rfl) ?_
          refine lv_iload_n hx hb (zat zrX12_leaves_0_ok 34 rfl) rfl (lv_at hl 4 rfl) ?_
          obtain ⟨o65, eo65, h⟩ := bd_of h
          refine ck_i (wc := ((a0, .inr (9, [g5, g6, g7, .ref a2, g8, g9, g10, g11, g12, g13, g14, g15, g16, g17, g18, g19, g20, g21, g22, g23, g24, g25, g26, g27, g28, g29, g30, g31, g32, g33])) :: bX11 a2 uq kq q_q [])) (wr := []) hP hD hK hS hA [0, 1, 2, 3, 4, 5, 6, 7, 8, 9, 10, 11, 12, 13, 14, 15] [] rfl rfl (by decide) (by decide) (by decide) (fun hPc hDc => (va_runV (As := [.int k1]) (rest := [.int o60, .int o55, .int o50, .int o44, .int o38, .ref a2]) ⟨hx, hb, hml, hown, hts⟩ (kfX12_baitOf l dC dI a0 k1 a2 uq kq (g5) (g6) (g7) (g8) (g9) (g10) (g11) (g12) (g13) (g14) (g15) (g16) (g17) (g18) (g19) (g20) (g21) (g22) (g23) (g24) (g25) (g26) (g27) (g28) (g29) (g30) (g31) (g32) (g33) q_q H.size o65 eo65) (cwV 1 hts gfX12_leaves_4 rfl rfl rfl (by decide +kernel) ⟨(Nat.le_of_ble_eq_true rfl), (Nat.le_of_ble_eq_true rfl)⟩) (PV hPc (hK.sub (tys' := (tX11 kq ([]))) [0, 1, 2, 3, 4, 5, 6, 7, 8, 9, 10, 11, 12, 13] rfl) hDc hN 0 rfl rfl) rfl rfl hl.1 rfl (lv_room (Nat.le_of_ble_eq_true rfl)) (zat zrX12_leaves_0_ok 35 rfl) ⟨(Nat.le_of_ble_eq_true rfl), (Nat.le_of_ble_eq_true rfl)⟩)) (fun r65 _ H locs hw hP hD _ hS => ?_)
          obtain rfl := hw.symm
          obtain ⟨hP, hD⟩ := pd_mk ((a0, .inr (9, [g5, g6, g7, .ref a2, g8, g9, g10, g11, g12, g13, g14, g15, g16, g17, g18, g19, g20, g21, g22, g23, g24, g25, g26, g27, g28, g29, g30, g31, g32, g33])) :: bX11 a2 uq kq q_q []) hP hD
          obtain ⟨o68, eo68⟩ : ∃ o, o = f_X11_darkWish o38 o44 o50 o55 o60 o65 q_q := ⟨_, rfl⟩
          have h := nm_of h o68 eo68
          refine ck_i (wc := (bX11 a2 uq kq q_q [])) (wr := ([(a0, .inr (9, [g5, g6, g7, .ref a2, g8, g9, g10, g11, g12, g13, g14, g15, g16, g17, g18, g19, g20, g21, g22, g23, g24, g25, g26, g27, g28, g29, g30, g31, g32, g33]))])) hP hD hK hS hA [1, 2, 3, 4, 5, 6, 7, 8, 9, 10, 11, 12, 13, 14, 15] [0] rfl rfl (by decide) (by decide) (by decide) (fun hPc hDc => (va_runV (As := [.int o38, .int o44, .int o50, .int o55, .int o60, .int o65]) (rest := []) ⟨hx, hb, hml, hown, hts⟩ (kfX11_darkWish l dC dI a2 o38 o44 o50 o55 o60 o65 uq kq q_q H.size o68 eo68.symm) (cwV 6 hts gfX12_leaves_5 rfl rfl rfl (by decide +kernel) ⟨(Nat.le_of_ble_eq_true rfl), (Nat.le_of_ble_eq_true rfl)⟩) (PV hPc (hK.sub (tys' := (tX11 kq ([]))) [0, 1, 2, 3, 4, 5, 6, 7, 8, 9, 10, 11, 12, 13] rfl) hDc hN 0 rfl rfl) rfl rfl hl.1 rfl (lv_room (Nat.le_of_ble_eq_true rfl)) (zat zrX12_leaves_0_ok 36 rfl) ⟨(Nat.le_of_ble_eq_true rfl), (Nat.le_of_ble_eq_true rfl)⟩)) (fun r68 _ H locs hw hP hD _ hS => ?_)
          obtain rfl := hw.symm
          obtain ⟨hP, hD⟩ := pd_mk ((a0, .inr (9, [g5, g6, g7, .ref a2, g8, g9, g10, g11, g12, g13, g14, g15, g16, g17, g18, g19, g20, g21, g22, g23, g24, g25, g26, g27, g28, g29, g30, g31, g32, g33])) :: bX11 a2 uq kq q_q []) hP hD
          refine lv_bipush (v := 50) hx hb (zat zrX12_leaves_0_ok 37 rfl) (by decide) ?_
          refine lv_icmp_lt (tgt := 82) hx hb (zat zrX12_leaves_0_ok 38 rfl) (by decide) (fun c73 => ?_) (fun c73 => ?_)
          · have h := (if_pos c73).symm.trans h
            refine lv_iinc (v := (v7_l3 + (1 : Int32))) (lv' := [(3, .int (v7_l3 + (1 : Int32))), (4, .int v7_l4), (2, .int v7_l2), (0, .ref a0), (1, .int k1)]) hx hb (zat zrX12_leaves_0_ok 41 rfl) hl (k := 1) rfl rfl (by decide) rfl (fun ls hl => ?_)
            exact J85 (v7_l3 + (1 : Int32)) v7_l2 H _ ls h  hP hD hS (lv_sub hl [0, 1, 2, 3, 4] rfl)
          · have h := (if_neg c73).symm.trans h
            refine lv_iinc (v := (v7_l2 + (1 : Int32))) (lv' := [(2, .int (v7_l2 + (1 : Int32))), (4, .int v7_l4), (3, .int v7_l3), (0, .ref a0), (1, .int k1)]) hx hb (zat zrX12_leaves_0_ok 39 rfl) hl (k := 2) rfl rfl (by decide) rfl (fun ls hl => ?_)
            refine lv_goto (tgt := 85) hx hb (zat zrX12_leaves_0_ok 40 rfl) (by decide) ?_
            exact J85 v7_l3 (v7_l2 + (1 : Int32)) H _ ls h  hP hD hS (lv_sub hl [2, 1, 0, 3, 4] rfl)
        · have h := (if_pos c25).symm.trans h
          refine lv_goto (tgt := 85) hx hb (zat zrX12_leaves_0_ok 15 rfl) (by decide) ?_
          exact J85 v7_l3 v7_l2 H _ ls h  hP hD hS (lv_sub hl [1, 0, 2, 3, 4] rfl)
  exact L7 FU (0 : Int32) (0 : Int32) (0 : Int32) s.heap _ ls h  hP hD hS (lv_sub hl [0, 1, 2, 3, 4] rfl)
noncomputable def zrX12_toAsk_0 : List ZR := zc 0 true (.bipush (-2)) 2 (zc 2 true (.istore_n 1) 1 (zc 3 true (.aload_n 0) 1 (zc 4 true (.bipush (-2)) 2 (zc 6 true (.putfield 427) 3 (zc 9 true (.iconst 0) 1 (zc 10 true (.istore_n 2) 1 (zc 11 true (.iload_n 2) 1 (zc 12 true (.aload_n 0) 1 (zc 13 true (.getfield 299) 3 (zc 16 true (.invokevirtual 374) 3 (zc 19 true (.if_icmp .ge 43) 3 (zc 22 true (.aload_n 0) 1 (zc 23 true (.iload_n 2) 1 (zc 24 true (.invokevirtual 430) 3 (zc 27 true (.istore_n 3) 1 (zc 28 true (.iload_n 3) 1 (zc 29 true (.ifCond .eq 27) 3 (zc 32 true (.iload_n 1) 1 (zc 33 true (.bipush (-2)) 2 (zc 35 true (.if_icmp .eq 14) 3 (zc 38 true (.iload_n 3) 1 (zc 39 true (.aload_n 0) 1 (zc 40 true (.getfield 427) 3 (zc 43 true (.if_icmp .lt 6) 3 (zc 46 true (.goto 10) 3 (zc 49 true (.aload_n 0) 1 (zc 50 true (.iload_n 3) 1 (zc 51 true (.putfield 427) 3 (zc 54 true (.iload_n 2) 1 (zc 55 true (.istore_n 1) 1 (zc 56 true (.iinc 2 1) 3 (zc 59 true (.goto (-48)) 3 (zc 62 true (.iload_n 1) 1 (zc 63 true (.ireturn) 1 ([])))))))))))))))))))))))))))))))))))
theorem zrX12_toAsk_0_ok : zck 0 ((zby cX12_toAsk).drop 0) zrX12_toAsk_0 = true := by decide +kernel
def vfX12_toAsk : List Cond := List.cons (.code yX12_toAsk cX12_toAsk 4 (some .int)) (apW [.fieldLink RX12 427 "HookPierModel" "askLeft" "I", .fieldLink RX12 299 "HookPierModel" "pier" "LHookPierModel$Pier;", .methodLink RX12 374 yX11_questions, .instanceMethod yX11_questions, .selects RX11 yX11_questions yX11_questions, .initialized RX11, .methodLink RX12 430 yX12_leaves, .instanceMethod yX12_leaves, .selects RX12 yX12_leaves yX12_leaves, .initialized RX12] (apW wsX120 (apW vfX11_questions (vfX12_leaves))))
theorem ifX12_toAsk_X12 : ∀ w ∈ wsX120, w ∈ vfX12_toAsk := fun _ h => (List.mem_cons_of_mem _ (List.mem_append_right _ (List.mem_append_left _ h)))
theorem qfX12_toAsk : Good vfX12_toAsk := gd_cons (by decide +kernel) (gd_app (gd_dec (by decide +kernel) : Good [.fieldLink RX12 427 "HookPierModel" "askLeft" "I", .fieldLink RX12 299 "HookPierModel" "pier" "LHookPierModel$Pier;", .methodLink RX12 374 yX11_questions, .instanceMethod yX11_questions, .selects RX11 yX11_questions yX11_questions, .initialized RX11, .methodLink RX12 430 yX12_leaves, .instanceMethod yX12_leaves, .selects RX12 yX12_leaves yX12_leaves, .initialized RX12]) (gd_app qsX12 (gd_app qfX11_questions qfX12_leaves)))
theorem gfX12_toAsk_0 : GoodIn vfX12_toAsk (wsV RX12 374 RX11 yX11_questions vfX11_questions) := goodIn_app (goodIn_r [.methodLink RX12 374 yX11_questions, .instanceMethod yX11_questions, .selects RX11 yX11_questions yX11_questions, .initialized RX11] [3, 4, 5, 6] rfl (by decide +kernel)) (goodIn_m (fun _ h => (List.mem_cons_of_mem _ (List.mem_append_right _ (List.mem_append_right _ (List.mem_append_left _ h))))) qfX11_questions)
theorem gfX12_toAsk_1 : GoodIn vfX12_toAsk (wsV RX12 430 RX12 yX12_leaves vfX12_leaves) := goodIn_app (goodIn_r [.methodLink RX12 430 yX12_leaves, .instanceMethod yX12_leaves, .selects RX12 yX12_leaves yX12_leaves, .initialized RX12] [7, 8, 9, 10] rfl (by decide +kernel)) (goodIn_m (fun _ h => (List.mem_cons_of_mem _ (List.mem_append_right _ (List.mem_append_right _ (List.mem_append_right _ h))))) qfX12_leaves)
set_option maxHeartbeats 2000000 in
set_option maxRecDepth 100000 in
theorem kfX12_toAsk (l : Launch) (dC : Nat → ClassId) (dI : Nat → Nat → Nat) (a0 : Nat) (a1 : Nat) (uq : Nat → Nat) (kq : Nat → ClassId) (m_k : TX12_k) (g5 : Value) (g6 : Value) (g7 : Value) (g8 : Value) (g9 : Value) (g10 : Value) (g11 : Value) (g12 : Value) (g13 : Value) (g14 : Value) (g15 : Value) (g16 : Value) (g17 : Value) (g18 : Value) (g19 : Value) (g20 : Value) (g21 : Value) (g22 : Value) (g23 : Value) (g24 : Value) (g25 : Value) (g26 : Value) (g27 : Value) (g28 : Value) (g29 : Value) (g30 : Value) (q_q : TX11_q) (sz : Nat) (out : (Int32 × TX12_k)) (h : f_X12_toAsk m_k q_q = some out) : KCi l yX12_toAsk vfX12_toAsk ({ frames := 5, cells := 0, slots := 0, locals := 116 }) (dC, dI) [.ref a0] sz ((a0, .inr (9, [g5, g6, g7, .ref a1, g8, g9, g10, g11, g12, g13, g14, g15, g16, g17, g18, g19, g20, g21, g22, g23, g24, g25, g26, g27, .int m_k.1, .int m_k.2.1, .int m_k.2.2, g28, g29, g30])) :: bX11 a1 uq kq q_q []) (tX11 kq ([])) (fun (r : Int32) _ => r = out.1) ((a0, .inr (9, [g5, g6, g7, .ref a1, g8, g9, g10, g11, g12, g13, g14, g15, g16, g17, g18, g19, g20, g21, g22, g23, g24, g25, g26, g27, .int out.2.1, .int out.2.2.1, .int out.2.2.2, g28, g29, g30])) :: bX11 a1 uq kq q_q []) 0 0 := by
  refine Met.ofW (cc := cX12_toAsk) (maxL := 4) (ret := (some .int)) (by decide) rfl ?_
  intro p e s m args below meth c s₁ B0 hml hv
  obtain ⟨rfl, hsz, hP, hK, hD0, hN⟩ := hv
  have hx := B0.exec
  have hb := B0.bytes
  have hr := B0.returns
  have hts := atoms_spec (ws := vfX12_toAsk) B0.pre
  have hown : s.vm.findClass RX12 = some m.cls := findClass_of_methodNamed B0.named
  have hlocks := B0.notSynchronized
  subst hsz
  have hD := hD0.self (sz := s.heap.size)
  generalize hAe : va_A ((a0, .inr (9, [g5, g6, g7, .ref a1, g8, g9, g10, g11, g12, g13, g14, g15, g16, g17, g18, g19, g20, g21, g22, g23, g24, g25, g26, g27, .int m_k.1, .int m_k.2.1, .int m_k.2.2, g28, g29, g30])) :: bX11 a1 uq kq q_q []) s.heap.size = A at hD ⊢
  have hA : ∀ q : Nat, s.heap.size ≤ q → A q := fun q h => by rw [← hAe]; exact Or.inr h
  have hS : va_S A s.heap s.heap [] := va_S.rf
  have hP : va_P (dC, dI) vwCl ((a0, .inr (9, [g5, g6, g7, .ref a1, g8, g9, g10, g11, g12, g13, g14, g15, g16, g17, g18, g19, g20, g21, g22, g23, g24, g25, g26, g27, .int m_k.1, .int m_k.2.1, .int m_k.2.2, g28, g29, g30])) :: bX11 a1 uq kq q_q []) s.heap := hP
  have hl := lv_entry ([.ref a0]) (n := 4) (Nat.le_of_ble_eq_true rfl)
  rw [lg_entry_eq]
  generalize (lg_sl ([.ref a0]) ++ List.replicate (4 - (lg_sl ([.ref a0])).length) Slot.unset).toArray = ls at hl ⊢
  have hl : lv_has ls 4 [(0, .ref a0)] := hl
  refine W_q (fun QQ hQQ => ?_)
  rw [f_X12_toAsk] at h
  refine lv_bipush (v := (-2)) hx hb (zat zrX12_toAsk_0_ok 0 rfl) (by decide) ?_
  refine lv_istore_n (lv' := [(1, .int (-2)), (0, .ref a0)]) hx hb (zat zrX12_toAsk_0_ok 1 rfl) rfl hl (by decide) rfl (fun ls hl => ?_)
  refine lv_aload_n hx hb (zat zrX12_toAsk_0_ok 2 rfl) rfl (lv_at hl 1 rfl) ?_
  refine lv_bipush (v := (-2)) hx hb (zat zrX12_toAsk_0_ok 3 rfl) (by decide) ?_
  refine va_put (D := (dC, dI)) (ci := 9) (v := .int (-2)) (ty := .int) (C := RX12) (T := TX12) (N := 30) hx hb hts ifX12_toAsk_X12 tyX12 tyX12_ok nmX12 hown hK hP hD hS 0 rfl rfl 24 (by decide) (hts (.fieldLink RX12 427 "HookPierModel" "askLeft" "I") (List.mem_of_getElem? (i := 1) rfl)) (fun _ h9 => h9) rfl (by decide +kernel) rfl rfl (Nat.le_of_ble_eq_true rfl) (zat zrX12_toAsk_0_ok 4 rfl) (fun H locs hP hD hS => ?_)
  obtain ⟨hP, hD⟩ := pd_mk ((a0, .inr (9, [g5, g6, g7, .ref a1, g8, g9, g10, g11, g12, g13, g14, g15, g16, g17, g18, g19, g20, g21, g22, g23, g24, g25, g26, g27, .int (-2), .int m_k.2.1, .int m_k.2.2, g28, g29, g30])) :: bX11 a1 uq kq q_q []) hP hD
  refine lv_iconst (v := 0) hx hb (zat zrX12_toAsk_0_ok 5 rfl) (by decide) ?_
  refine lv_istore_n (lv' := [(2, .int 0), (1, .int (-2)), (0, .ref a0)]) hx hb (zat zrX12_toAsk_0_ok 6 rfl) rfl hl (by decide) rfl (fun ls hl => ?_)
  have L11 : ∀ (n11 : Nat) (v11_l2 : Int32) (v11_l1 : Int32) (v11_m_k : TX12_k) (H : Heap) (locs : List Loc) (ls : Array Slot), f_X12_toAsk_L11 q_q n11 v11_l2 v11_l1 v11_m_k = some out → va_P (dC, dI) vwCl ((a0, .inr (9, [g5, g6, g7, .ref a1, g8, g9, g10, g11, g12, g13, g14, g15, g16, g17, g18, g19, g20, g21, g22, g23, g24, g25, g26, g27, .int v11_m_k.1, .int v11_m_k.2.1, .int v11_m_k.2.2, g28, g29, g30])) :: bX11 a1 uq kq q_q []) H → va_D A ((a0, .inr (9, [g5, g6, g7, .ref a1, g8, g9, g10, g11, g12, g13, g14, g15, g16, g17, g18, g19, g20, g21, g22, g23, g24, g25, g26, g27, .int v11_m_k.1, .int v11_m_k.2.1, .int v11_m_k.2.2, g28, g29, g30])) :: bX11 a1 uq kq q_q []) → va_S A s.heap H locs → lv_has ls 4 [(2, .int v11_l2), (1, .int v11_l1), (0, .ref a0)] → W p l e (headSpec vfX12_toAsk { frames := 5, cells := 0, slots := 0, locals := 116 }).room s m ([.ref a0]).toArray below meth c H locs 0 0 QQ (F0 m 11 ls []) := by
    intro n11
    induction n11 with
    | zero =>
      intro v11_l2 v11_l1 v11_m_k H locs ls h  _ _ _ _
      rw [f_X12_toAsk_L11] at h
      cases h
    | succ n11 ih11 =>
      intro v11_l2 v11_l1 v11_m_k H locs ls h  hP hD hS hl
      rw [f_X12_toAsk_L11] at h
      refine lv_iload_n hx hb (zat zrX12_toAsk_0_ok 7 rfl) rfl (lv_at hl 0 rfl) ?_
      refine lv_aload_n hx hb (zat zrX12_toAsk_0_ok 8 rfl) rfl (lv_at hl 2 rfl) ?_
      refine va_get (D := (dC, dI)) (ci := 9) (v := .ref a1) (C := RX12) (T := TX12) (N := 30) hx hb hts ifX12_toAsk_X12 hown hK hP 0 rfl rfl 3 (by decide) (hts (.fieldLink RX12 299 "HookPierModel" "pier" "LHookPierModel$Pier;") (List.mem_of_getElem? (i := 2) rfl)) (fun _ h9 => h9) rfl (zat zrX12_toAsk_0_ok 9 rfl) ?_
      obtain ⟨o16, eo16⟩ : ∃ o, o = f_X11_questions q_q := ⟨_, rfl⟩
      have h := nm_of h o16 eo16
      refine ck_i (wc := (bX11 a1 uq kq q_q [])) (wr := ([(a0, .inr (9, [g5, g6, g7, .ref a1, g8, g9, g10, g11, g12, g13, g14, g15, g16, g17, g18, g19, g20, g21, g22, g23, g24, g25, g26, g27, .int v11_m_k.1, .int v11_m_k.2.1, .int v11_m_k.2.2, g28, g29, g30]))])) hP hD hK hS hA [1, 2, 3, 4, 5, 6, 7, 8, 9, 10, 11, 12, 13, 14, 15] [0] rfl rfl (by decide) (by decide) (by decide) (fun hPc hDc => (va_runV (As := []) (rest := [.int v11_l2]) ⟨hx, hb, hml, hown, hts⟩ (kfX11_questions l dC dI a1 uq kq q_q H.size o16 eo16.symm) (cwV 0 hts gfX12_toAsk_0 rfl rfl rfl (by decide +kernel) ⟨(Nat.le_of_ble_eq_true rfl), (Nat.le_of_ble_eq_true rfl)⟩) (PV hPc (hK.sub (tys' := (tX11 kq ([]))) [0, 1, 2, 3, 4, 5, 6, 7, 8, 9, 10, 11, 12, 13] rfl) hDc hN 0 rfl rfl) rfl rfl hl.1 rfl (lv_room (Nat.le_of_ble_eq_true rfl)) (zat zrX12_toAsk_0_ok 10 rfl) ⟨(Nat.le_of_ble_eq_true rfl), (Nat.le_of_ble_eq_true rfl)⟩)) (fun r16 _ H locs hw hP hD _ hS => ?_)
      obtain rfl := hw.symm
      obtain ⟨hP, hD⟩ := pd_mk ((a0, .inr (9, [g5, g6, g7, .ref a1, g8, g9, g10, g11, g12, g13, g14, g15, g16, g17, g18, g19, g20, g21, g22, g23, g24, g25, g26, g27, .int v11_m_k.1, .int v11_m_k.2.1, .int v11_m_k.2.2, g28, g29, g30])) :: bX11 a1 uq kq q_q []) hP hD
      refine lv_icmp_ge (tgt := 62) hx hb (zat zrX12_toAsk_0_ok 11 rfl) (by decide) (fun c19 => ?_) (fun c19 => ?_)
      · have h := (if_pos c19).symm.trans h
        refine lv_iload_n hx hb (zat zrX12_toAsk_0_ok 33 rfl) rfl (lv_at hl 1 rfl) ?_
        obtain rfl := Option.some.inj h
        obtain ⟨hP9, hD9⟩ := pd_sub ((a0, .inr (9, [g5, g6, g7, .ref a1, g8, g9, g10, g11, g12, g13, g14, g15, g16, g17, g18, g19, g20, g21, g22, g23, g24, g25, g26, g27, .int v11_m_k.1, .int v11_m_k.2.1, .int v11_m_k.2.2, g28, g29, g30])) :: bX11 a1 uq kq q_q []) [0, 1, 2, 3, 4, 5, 6, 7, 8, 9, 10, 11, 12, 13, 14, 15] hP hD (by decide) rfl
        have hK9 := hK.sub (tys' := []) [] rfl
        rw [hQQ]
        exact W.iret (v := v11_l1) hx hb hr (fun t ht hW => ⟨⟨v11_l1, (), rfl, rfl, by rw [ht]; exact hP9, va_K.moved hW.alike hK9, hD9⟩, hS.F ht⟩) hS.2.2 (zat zrX12_toAsk_0_ok 34 rfl)
      · have h := (if_neg c19).symm.trans h
        refine lv_aload_n hx hb (zat zrX12_toAsk_0_ok 12 rfl) rfl (lv_at hl 2 rfl) ?_
        refine lv_iload_n hx hb (zat zrX12_toAsk_0_ok 13 rfl) rfl (lv_at hl 0 rfl) ?_
        obtain ⟨o24, eo24, h⟩ := bd_of h
        refine ck_i (wc := ((a0, .inr (9, [g5, g6, g7, .ref a1, g8, g9, g10, g11, g12, g13, g14, g15, g16, g17, g18, g19, g20, g21, g22, g23, g24, g25, g26, g27, .int v11_m_k.1, .int v11_m_k.2.1, .int v11_m_k.2.2, g28, g29, g30])) :: bX11 a1 uq kq q_q [])) (wr := []) hP hD hK hS hA [0, 1, 2, 3, 4, 5, 6, 7, 8, 9, 10, 11, 12, 13, 14, 15] [] rfl rfl (by decide) (by decide) (by decide) (fun hPc hDc => (va_runV (As := [.int v11_l2]) (rest := []) ⟨hx, hb, hml, hown, hts⟩ (kfX12_leaves l dC dI a0 v11_l2 a1 uq kq (g5) (g6) (g7) (g8) (g9) (g10) (g11) (g12) (g13) (g14) (g15) (g16) (g17) (g18) (g19) (g20) (g21) (g22) (g23) (g24) (g25) (g26) (g27) (.int v11_m_k.1) (.int v11_m_k.2.1) (.int v11_m_k.2.2) (g28) (g29) (g30) q_q H.size o24 eo24) (cwV 1 hts gfX12_toAsk_1 rfl rfl rfl (by decide +kernel) ⟨(Nat.le_of_ble_eq_true rfl), (Nat.le_of_ble_eq_true rfl)⟩) (PV hPc (hK.sub (tys' := (tX11 kq ([]))) [0, 1, 2, 3, 4, 5, 6, 7, 8, 9, 10, 11, 12, 13] rfl) hDc hN 0 rfl rfl) rfl rfl hl.1 rfl (lv_room (Nat.le_of_ble_eq_true rfl)) (zat zrX12_toAsk_0_ok 14 rfl) ⟨(Nat.le_of_ble_eq_true rfl), (Nat.le_of_ble_eq_true rfl)⟩)) (fun r24 _ H locs hw hP hD _ hS => ?_)
        obtain rfl := hw.symm
        obtain ⟨hP, hD⟩ := pd_mk ((a0, .inr (9, [g5, g6, g7, .ref a1, g8, g9, g10, g11, g12, g13, g14, g15, g16, g17, g18, g19, g20, g21, g22, g23, g24, g25, g26, g27, .int v11_m_k.1, .int v11_m_k.2.1, .int v11_m_k.2.2, g28, g29, g30])) :: bX11 a1 uq kq q_q []) hP hD
        refine lv_istore_n (lv' := [(3, .int o24), (2, .int v11_l2), (1, .int v11_l1), (0, .ref a0)]) hx hb (zat zrX12_toAsk_0_ok 15 rfl) rfl hl (by decide) rfl (fun ls hl => ?_)
        refine lv_iload_n hx hb (zat zrX12_toAsk_0_ok 16 rfl) rfl (lv_at hl 0 rfl) ?_
        have J56 : ∀ (v56_l1 : Int32) (v56_m_k : TX12_k) (H : Heap) (locs : List Loc) (ls : Array Slot), f_X12_toAsk_J56 (f_X12_toAsk_L11 q_q n11) v11_l2 v56_l1 v56_m_k = some out → va_P (dC, dI) vwCl ((a0, .inr (9, [g5, g6, g7, .ref a1, g8, g9, g10, g11, g12, g13, g14, g15, g16, g17, g18, g19, g20, g21, g22, g23, g24, g25, g26, g27, .int v56_m_k.1, .int v56_m_k.2.1, .int v56_m_k.2.2, g28, g29, g30])) :: bX11 a1 uq kq q_q []) H → va_D A ((a0, .inr (9, [g5, g6, g7, .ref a1, g8, g9, g10, g11, g12, g13, g14, g15, g16, g17, g18, g19, g20, g21, g22, g23, g24, g25, g26, g27, .int v56_m_k.1, .int v56_m_k.2.1, .int v56_m_k.2.2, g28, g29, g30])) :: bX11 a1 uq kq q_q []) → va_S A s.heap H locs → lv_has ls 4 [(2, .int v11_l2), (1, .int v56_l1), (0, .ref a0)] → W p l e (headSpec vfX12_toAsk { frames := 5, cells := 0, slots := 0, locals := 116 }).room s m ([.ref a0]).toArray below meth c H locs 0 0 QQ (F0 m 56 ls []) := by
          intro v56_l1 v56_m_k H locs ls h  hP hD hS hl
          rw [f_X12_toAsk_J56] at h
          refine lv_iinc (v := (v11_l2 + (1 : Int32))) (lv' := [(2, .int (v11_l2 + (1 : Int32))), (1, .int v56_l1), (0, .ref a0)]) hx hb (zat zrX12_toAsk_0_ok 31 rfl) hl (k := 0) rfl rfl (by decide) rfl (fun ls hl => ?_)
          refine lv_goto (tgt := 11) hx hb (zat zrX12_toAsk_0_ok 32 rfl) (by decide) ?_
          exact ih11 (v11_l2 + (1 : Int32)) v56_l1 v56_m_k H _ ls h  hP hD hS (lv_sub hl [0, 1, 2] rfl)
        refine lv_if_eq (tgt := 56) hx hb (zat zrX12_toAsk_0_ok 17 rfl) (by decide) (fun c29 => ?_) (fun c29 => ?_)
        · have h := (if_pos c29).symm.trans h
          exact J56 v11_l1 v11_m_k H _ ls h  hP hD hS (lv_sub hl [1, 2, 3] rfl)
        · have h := (if_neg c29).symm.trans h
          refine lv_iload_n hx hb (zat zrX12_toAsk_0_ok 18 rfl) rfl (lv_at hl 2 rfl) ?_
          refine lv_bipush (v := (-2)) hx hb (zat zrX12_toAsk_0_ok 19 rfl) (by decide) ?_
          have J49 : ∀ (H : Heap) (locs : List Loc) (ls : Array Slot), f_X12_toAsk_J49 (f_X12_toAsk_L11 q_q n11) o24 v11_l2 v11_m_k = some out → va_P (dC, dI) vwCl ((a0, .inr (9, [g5, g6, g7, .ref a1, g8, g9, g10, g11, g12, g13, g14, g15, g16, g17, g18, g19, g20, g21, g22, g23, g24, g25, g26, g27, .int v11_m_k.1, .int v11_m_k.2.1, .int v11_m_k.2.2, g28, g29, g30])) :: bX11 a1 uq kq q_q []) H → va_D A ((a0, .inr (9, [g5, g6, g7, .ref a1, g8, g9, g10, g11, g12, g13, g14, g15, g16, g17, g18, g19, g20, g21, g22, g23, g24, g25, g26, g27, .int v11_m_k.1, .int v11_m_k.2.1, .int v11_m_k.2.2, g28, g29, g30])) :: bX11 a1 uq kq q_q []) → va_S A s.heap H locs → lv_has ls 4 [(3, .int o24), (2, .int v11_l2), (0, .ref a0)] → W p l e (headSpec vfX12_toAsk { frames := 5, cells := 0, slots := 0, locals := 116 }).room s m ([.ref a0]).toArray below meth c H locs 0 0 QQ (F0 m 49 ls []) := by
            intro  H locs ls h  hP hD hS hl
            rw [f_X12_toAsk_J49] at h
            refine lv_aload_n hx hb (zat zrX12_toAsk_0_ok 26 rfl) rfl (lv_at hl 2 rfl) ?_
            refine lv_iload_n hx hb (zat zrX12_toAsk_0_ok 27 rfl) rfl (lv_at hl 0 rfl) ?_
            refine va_put (D := (dC, dI)) (ci := 9) (v := .int o24) (ty := .int) (C := RX12) (T := TX12) (N := 30) hx hb hts ifX12_toAsk_X12 tyX12 tyX12_ok nmX12 hown hK hP hD hS 0 rfl rfl 24 (by decide) (hts (.fieldLink RX12 427 "HookPierModel" "askLeft" "I") (List.mem_of_getElem? (i := 1) rfl)) (fun _ h9 => h9) rfl (by decide +kernel) rfl rfl (Nat.le_of_ble_eq_true rfl) (zat zrX12_toAsk_0_ok 28 rfl) (fun H locs hP hD hS => ?_)
            obtain ⟨hP, hD⟩ := pd_mk ((a0, .inr (9, [g5, g6, g7, .ref a1, g8, g9, g10, g11, g12, g13, g14, g15, g16, g17, g18, g19, g20, g21, g22, g23, g24, g25, g26, g27, .int o24, .int v11_m_k.2.1, .int v11_m_k.2.2, g28, g29, g30])) :: bX11 a1 uq kq q_q []) hP hD
            refine lv_iload_n hx hb (zat zrX12_toAsk_0_ok 29 rfl) rfl (lv_at hl 1 rfl) ?_
            refine lv_istore_n (lv' := [(1, .int v11_l2), (3, .int o24), (2, .int v11_l2), (0, .ref a0)]) hx hb (zat zrX12_toAsk_0_ok 30 rfl) rfl hl (by decide) rfl (fun ls hl => ?_)
            exact J56 v11_l2 (o24, v11_m_k.2) H _ ls h  hP hD hS (lv_sub hl [2, 0, 3] rfl)
          refine lv_icmp_eq (tgt := 49) hx hb (zat zrX12_toAsk_0_ok 20 rfl) (by decide) (fun c35 => ?_) (fun c35 => ?_)
          · have h := (if_pos c35).symm.trans h
            exact J49  H _ ls h  hP hD hS (lv_sub hl [0, 1, 3] rfl)
          · have h := (if_neg c35).symm.trans h
            refine lv_iload_n hx hb (zat zrX12_toAsk_0_ok 21 rfl) rfl (lv_at hl 0 rfl) ?_
            refine lv_aload_n hx hb (zat zrX12_toAsk_0_ok 22 rfl) rfl (lv_at hl 3 rfl) ?_
            refine va_get (D := (dC, dI)) (ci := 9) (v := .int v11_m_k.1) (C := RX12) (T := TX12) (N := 30) hx hb hts ifX12_toAsk_X12 hown hK hP 0 rfl rfl 24 (by decide) (hts (.fieldLink RX12 427 "HookPierModel" "askLeft" "I") (List.mem_of_getElem? (i := 1) rfl)) (fun _ h9 => h9) rfl (zat zrX12_toAsk_0_ok 23 rfl) ?_
            refine lv_icmp_lt (tgt := 49) hx hb (zat zrX12_toAsk_0_ok 24 rfl) (by decide) (fun c43 => ?_) (fun c43 => ?_)
            · have h := (if_pos c43).symm.trans h
              exact J49  H _ ls h  hP hD hS (lv_sub hl [0, 1, 3] rfl)
            · have h := (if_neg c43).symm.trans h
              refine lv_goto (tgt := 56) hx hb (zat zrX12_toAsk_0_ok 25 rfl) (by decide) ?_
              exact J56 v11_l1 v11_m_k H _ ls h  hP hD hS (lv_sub hl [1, 2, 3] rfl)
  exact L11 FU (0 : Int32) (-2 : Int32) ((-2 : Int32), m_k.2) H _ ls h  hP hD hS (lv_sub hl [0, 1, 2] rfl)
noncomputable def zrX12_ask_0 : List ZR := zc 0 true (.aload_n 0) 1 (zc 1 true (.iconst 0) 1 (zc 2 true (.putfield 36) 3 (zc 5 true (.aload_n 0) 1 (zc 6 true (.invokevirtual 417) 3 (zc 9 true (.istore_n 1) 1 (zc 10 true (.iload_n 1) 1 (zc 11 true (.ifCond .le 9) 3 (zc 14 true (.aload_n 0) 1 (zc 15 true (.iload_n 1) 1 (zc 16 true (.invokevirtual 42) 3 (zc 19 true (.ireturn) 1 (zc 20 true (.aload_n 0) 1 (zc 21 true (.invokevirtual 433) 3 (zc 24 true (.istore_n 2) 1 (zc 25 true (.aload_n 0) 1 (zc 26 true (.iload_n 2) 1 (zc 27 true (.bipush (-2)) 2 (zc 29 true (.if_icmp .ne 8) 3 (zc 32 true (.bipush (-2)) 2 (zc 34 true (.goto 8) 3 (zc 37 true (.aload_n 0) 1 (zc 38 true (.iload_n 2) 1 (zc 39 true (.invokevirtual 383) 3 (zc 42 true (.invokevirtual 46) 3 (zc 45 true (.ireturn) 1 ([]))))))))))))))))))))))))))
theorem zrX12_ask_0_ok : zck 0 ((zby cX12_ask).drop 0) zrX12_ask_0 = true := by decide +kernel
def vfX12_ask : List Cond := List.cons (.code yX12_ask cX12_ask 3 (some .int)) (apW [.fieldLink RX12 36 "HookPierModel" "thrown" "I", .methodLink RX12 417 yX12_refusesDark, .instanceMethod yX12_refusesDark, .selects RX12 yX12_refusesDark yX12_refusesDark, .initialized RX12, .methodLink RX12 433 yX12_toAsk, .instanceMethod yX12_toAsk, .selects RX12 yX12_toAsk yX12_toAsk, .methodLink RX12 46 yX12_good, .instanceMethod yX12_good, .selects RX12 yX12_good yX12_good, .methodLink RX12 383 yX12_codeOf, .instanceMethod yX12_codeOf, .selects RX12 yX12_codeOf yX12_codeOf, .methodLink RX12 42 yX12_refused, .instanceMethod yX12_refused, .selects RX12 yX12_refused yX12_refused] (apW wsX120 (apW vfX12_refusesDark (apW vfX12_toAsk (apW vfX12_good (apW vfX12_codeOf (vfX12_refused)))))))
theorem ifX12_ask_X12 : ∀ w ∈ wsX120, w ∈ vfX12_ask := fun _ h => (List.mem_cons_of_mem _ (List.mem_append_right _ (List.mem_append_left _ h)))
theorem qfX12_ask : Good vfX12_ask := gd_cons (by decide +kernel) (gd_app (gd_dec (by decide +kernel) : Good [.fieldLink RX12 36 "HookPierModel" "thrown" "I", .methodLink RX12 417 yX12_refusesDark, .instanceMethod yX12_refusesDark, .selects RX12 yX12_refusesDark yX12_refusesDark, .initialized RX12, .methodLink RX12 433 yX12_toAsk, .instanceMethod yX12_toAsk, .selects RX12 yX12_toAsk yX12_toAsk, .methodLink RX12 46 yX12_good, .instanceMethod yX12_good, .selects RX12 yX12_good yX12_good, .methodLink RX12 383 yX12_codeOf, .instanceMethod yX12_codeOf, .selects RX12 yX12_codeOf yX12_codeOf, .methodLink RX12 42 yX12_refused, .instanceMethod yX12_refused, .selects RX12 yX12_refused yX12_refused]) (gd_app qsX12 (gd_app qfX12_refusesDark (gd_app qfX12_toAsk (gd_app qfX12_good (gd_app qfX12_codeOf qfX12_refused))))))
theorem gfX12_ask_0 : GoodIn vfX12_ask (wsV RX12 417 RX12 yX12_refusesDark vfX12_refusesDark) := goodIn_app (goodIn_r [.methodLink RX12 417 yX12_refusesDark, .instanceMethod yX12_refusesDark, .selects RX12 yX12_refusesDark yX12_refusesDark, .initialized RX12] [2, 3, 4, 5] rfl (by decide +kernel)) (goodIn_m (fun _ h => (List.mem_cons_of_mem _ (List.mem_append_right _ (List.mem_append_right _ (List.mem_append_left _ h))))) qfX12_refusesDark)
theorem gfX12_ask_1 : GoodIn vfX12_ask (wsV RX12 433 RX12 yX12_toAsk vfX12_toAsk) := goodIn_app (goodIn_r [.methodLink RX12 433 yX12_toAsk, .instanceMethod yX12_toAsk, .selects RX12 yX12_toAsk yX12_toAsk, .initialized RX12] [6, 7, 8, 5] rfl (by decide +kernel)) (goodIn_m (fun _ h => (List.mem_cons_of_mem _ (List.mem_append_right _ (List.mem_append_right _ (List.mem_append_right _ (List.mem_append_left _ h)))))) qfX12_toAsk)
theorem gfX12_ask_2 : GoodIn vfX12_ask (wsV RX12 46 RX12 yX12_good vfX12_good) := goodIn_app (goodIn_r [.methodLink RX12 46 yX12_good, .instanceMethod yX12_good, .selects RX12 yX12_good yX12_good, .initialized RX12] [9, 10, 11, 5] rfl (by decide +kernel)) (goodIn_m (fun _ h => (List.mem_cons_of_mem _ (List.mem_append_right _ (List.mem_append_right _ (List.mem_append_right _ (List.mem_append_right _ (List.mem_append_left _ h))))))) qfX12_good)
theorem gfX12_ask_3 : GoodIn vfX12_ask (wsV RX12 383 RX12 yX12_codeOf vfX12_codeOf) := goodIn_app (goodIn_r [.methodLink RX12 383 yX12_codeOf, .instanceMethod yX12_codeOf, .selects RX12 yX12_codeOf yX12_codeOf, .initialized RX12] [12, 13, 14, 5] rfl (by decide +kernel)) (goodIn_m (fun _ h => (List.mem_cons_of_mem _ (List.mem_append_right _ (List.mem_append_right _ (List.mem_append_right _ (List.mem_append_right _ (List.mem_append_right _ (List.mem_append_left _ h)))))))) qfX12_codeOf)
theorem gfX12_ask_4 : GoodIn vfX12_ask (wsV RX12 42 RX12 yX12_refused vfX12_refused) := goodIn_app (goodIn_r [.methodLink RX12 42 yX12_refused, .instanceMethod yX12_refused, .selects RX12 yX12_refused yX12_refused, .initialized RX12] [15, 16, 17, 5] rfl (by decide +kernel)) (goodIn_m (fun _ h => (List.mem_cons_of_mem _ (List.mem_append_right _ (List.mem_append_right _ (List.mem_append_right _ (List.mem_append_right _ (List.mem_append_right _ (List.mem_append_right _ h)))))))) qfX12_refused)
set_option maxHeartbeats 2000000 in
set_option maxRecDepth 100000 in
theorem kfX12_ask (l : Launch) (dC : Nat → ClassId) (dI : Nat → Nat → Nat) (a0 : Nat) (a1 : Nat) (uq : Nat → Nat) (kq : Nat → ClassId) (m_t : TX12_t) (m_k : TX12_k) (g6 : Value) (g7 : Value) (g8 : Value) (g9 : Value) (g10 : Value) (g11 : Value) (g12 : Value) (g13 : Value) (g14 : Value) (g15 : Value) (g16 : Value) (g17 : Value) (g18 : Value) (g19 : Value) (g20 : Value) (g21 : Value) (g22 : Value) (g23 : Value) (g24 : Value) (g25 : Value) (g26 : Value) (g27 : Value) (g28 : Value) (q_q : TX11_q) (sz : Nat) (out : (Int32 × TX12_t × TX12_k)) (h : f_X12_ask m_t m_k q_q = some out) : KCi l yX12_ask vfX12_ask ({ frames := 6, cells := 0, slots := 0, locals := 139 }) (dC, dI) [.ref a0] sz ((a0, .inr (9, [.int m_t.1, .int m_t.2.1, .int m_t.2.2, .ref a1, g6, g7, g8, g9, g10, g11, g12, g13, g14, g15, g16, g17, g18, g19, g20, g21, g22, g23, g24, g25, .int m_k.1, .int m_k.2.1, .int m_k.2.2, g26, g27, g28])) :: bX11 a1 uq kq q_q []) (tX11 kq ([])) (fun (r : Int32) _ => r = out.1) ((a0, .inr (9, [.int out.2.1.1, .int out.2.1.2.1, .int out.2.1.2.2, .ref a1, g6, g7, g8, g9, g10, g11, g12, g13, g14, g15, g16, g17, g18, g19, g20, g21, g22, g23, g24, g25, .int out.2.2.1, .int out.2.2.2.1, .int out.2.2.2.2, g26, g27, g28])) :: bX11 a1 uq kq q_q []) 0 0 := by
  refine Met.ofW (cc := cX12_ask) (maxL := 3) (ret := (some .int)) (by decide) rfl ?_
  intro p e s m args below meth c s₁ B0 hml hv
  obtain ⟨rfl, hsz, hP, hK, hD0, hN⟩ := hv
  have hx := B0.exec
  have hb := B0.bytes
  have hr := B0.returns
  have hts := atoms_spec (ws := vfX12_ask) B0.pre
  have hown : s.vm.findClass RX12 = some m.cls := findClass_of_methodNamed B0.named
  have hlocks := B0.notSynchronized
  subst hsz
  have hD := hD0.self (sz := s.heap.size)
  generalize hAe : va_A ((a0, .inr (9, [.int m_t.1, .int m_t.2.1, .int m_t.2.2, .ref a1, g6, g7, g8, g9, g10, g11, g12, g13, g14, g15, g16, g17, g18, g19, g20, g21, g22, g23, g24, g25, .int m_k.1, .int m_k.2.1, .int m_k.2.2, g26, g27, g28])) :: bX11 a1 uq kq q_q []) s.heap.size = A at hD ⊢
  have hA : ∀ q : Nat, s.heap.size ≤ q → A q := fun q h => by rw [← hAe]; exact Or.inr h
  have hS : va_S A s.heap s.heap [] := va_S.rf
  have hP : va_P (dC, dI) vwCl ((a0, .inr (9, [.int m_t.1, .int m_t.2.1, .int m_t.2.2, .ref a1, g6, g7, g8, g9, g10, g11, g12, g13, g14, g15, g16, g17, g18, g19, g20, g21, g22, g23, g24, g25, .int m_k.1, .int m_k.2.1, .int m_k.2.2, g26, g27, g28])) :: bX11 a1 uq kq q_q []) s.heap := hP
  have hl := lv_entry ([.ref a0]) (n := 3) (Nat.le_of_ble_eq_true rfl)
  rw [lg_entry_eq]
  generalize (lg_sl ([.ref a0]) ++ List.replicate (3 - (lg_sl ([.ref a0])).length) Slot.unset).toArray = ls at hl ⊢
  have hl : lv_has ls 3 [(0, .ref a0)] := hl
  refine W_q (fun QQ hQQ => ?_)
  rw [f_X12_ask] at h
  refine lv_aload_n hx hb (zat zrX12_ask_0_ok 0 rfl) rfl (lv_at hl 0 rfl) ?_
  refine lv_iconst (v := 0) hx hb (zat zrX12_ask_0_ok 1 rfl) (by decide) ?_
  refine va_put (D := (dC, dI)) (ci := 9) (v := .int 0) (ty := .int) (C := RX12) (T := TX12) (N := 30) hx hb hts ifX12_ask_X12 tyX12 tyX12_ok nmX12 hown hK hP hD hS 0 rfl rfl 0 (by decide) (hts (.fieldLink RX12 36 "HookPierModel" "thrown" "I") (List.mem_of_getElem? (i := 1) rfl)) (fun _ h9 => h9) rfl (by decide +kernel) rfl rfl (Nat.le_of_ble_eq_true rfl) (zat zrX12_ask_0_ok 2 rfl) (fun H locs hP hD hS => ?_)
  obtain ⟨hP, hD⟩ := pd_mk ((a0, .inr (9, [.int 0, .int m_t.2.1, .int m_t.2.2, .ref a1, g6, g7, g8, g9, g10, g11, g12, g13, g14, g15, g16, g17, g18, g19, g20, g21, g22, g23, g24, g25, .int m_k.1, .int m_k.2.1, .int m_k.2.2, g26, g27, g28])) :: bX11 a1 uq kq q_q []) hP hD
  refine lv_aload_n hx hb (zat zrX12_ask_0_ok 3 rfl) rfl (lv_at hl 0 rfl) ?_
  obtain ⟨o6, eo6⟩ : ∃ o, o = f_X12_refusesDark q_q := ⟨_, rfl⟩
  have h := nm_of h o6 eo6
  refine ck_i (wc := ((a0, .inr (9, [.int 0, .int m_t.2.1, .int m_t.2.2, .ref a1, g6, g7, g8, g9, g10, g11, g12, g13, g14, g15, g16, g17, g18, g19, g20, g21, g22, g23, g24, g25, .int m_k.1, .int m_k.2.1, .int m_k.2.2, g26, g27, g28])) :: bX11 a1 uq kq q_q [])) (wr := []) hP hD hK hS hA [0, 1, 2, 3, 4, 5, 6, 7, 8, 9, 10, 11, 12, 13, 14, 15] [] rfl rfl (by decide) (by decide) (by decide) (fun hPc hDc => (va_runV (As := []) (rest := []) ⟨hx, hb, hml, hown, hts⟩ (kfX12_refusesDark l dC dI a0 a1 uq kq (.int 0) (.int m_t.2.1) (.int m_t.2.2) (g6) (g7) (g8) (g9) (g10) (g11) (g12) (g13) (g14) (g15) (g16) (g17) (g18) (g19) (g20) (g21) (g22) (g23) (g24) (g25) (.int m_k.1) (.int m_k.2.1) (.int m_k.2.2) (g26) (g27) (g28) q_q H.size o6 eo6.symm) (cwV 0 hts gfX12_ask_0 rfl rfl rfl (by decide +kernel) ⟨(Nat.le_of_ble_eq_true rfl), (Nat.le_of_ble_eq_true rfl)⟩) (PV hPc (hK.sub (tys' := (tX11 kq ([]))) [0, 1, 2, 3, 4, 5, 6, 7, 8, 9, 10, 11, 12, 13] rfl) hDc hN 0 rfl rfl) rfl rfl hl.1 rfl (lv_room (Nat.le_of_ble_eq_true rfl)) (zat zrX12_ask_0_ok 4 rfl) ⟨(Nat.le_of_ble_eq_true rfl), (Nat.le_of_ble_eq_true rfl)⟩)) (fun r6 _ H locs hw hP hD _ hS => ?_)
  obtain rfl := hw.symm
  obtain ⟨hP, hD⟩ := pd_mk ((a0, .inr (9, [.int 0, .int m_t.2.1, .int m_t.2.2, .ref a1, g6, g7, g8, g9, g10, g11, g12, g13, g14, g15, g16, g17, g18, g19, g20, g21, g22, g23, g24, g25, .int m_k.1, .int m_k.2.1, .int m_k.2.2, g26, g27, g28])) :: bX11 a1 uq kq q_q []) hP hD
  refine lv_istore_n (lv' := [(1, .int o6), (0, .ref a0)]) hx hb (zat zrX12_ask_0_ok 5 rfl) rfl hl (by decide) rfl (fun ls hl => ?_)
  refine lv_iload_n hx hb (zat zrX12_ask_0_ok 6 rfl) rfl (lv_at hl 0 rfl) ?_
  refine lv_if_le (tgt := 20) hx hb (zat zrX12_ask_0_ok 7 rfl) (by decide) (fun c11 => ?_) (fun c11 => ?_)
  · have h := (if_pos c11).symm.trans h
    refine lv_aload_n hx hb (zat zrX12_ask_0_ok 12 rfl) rfl (lv_at hl 1 rfl) ?_
    obtain ⟨o21, eo21, h⟩ := bd_of h
    refine ck_i (wc := ((a0, .inr (9, [.int 0, .int m_t.2.1, .int m_t.2.2, .ref a1, g6, g7, g8, g9, g10, g11, g12, g13, g14, g15, g16, g17, g18, g19, g20, g21, g22, g23, g24, g25, .int m_k.1, .int m_k.2.1, .int m_k.2.2, g26, g27, g28])) :: bX11 a1 uq kq q_q [])) (wr := []) hP hD hK hS hA [0, 1, 2, 3, 4, 5, 6, 7, 8, 9, 10, 11, 12, 13, 14, 15] [] rfl rfl (by decide) (by decide) (by decide) (fun hPc hDc => (va_runV (As := []) (rest := []) ⟨hx, hb, hml, hown, hts⟩ (kfX12_toAsk l dC dI a0 a1 uq kq m_k (.int 0) (.int m_t.2.1) (.int m_t.2.2) (g6) (g7) (g8) (g9) (g10) (g11) (g12) (g13) (g14) (g15) (g16) (g17) (g18) (g19) (g20) (g21) (g22) (g23) (g24) (g25) (g26) (g27) (g28) q_q H.size o21 eo21) (cwV 0 hts gfX12_ask_1 rfl rfl rfl (by decide +kernel) ⟨(Nat.le_of_ble_eq_true rfl), (Nat.le_of_ble_eq_true rfl)⟩) (PV hPc (hK.sub (tys' := (tX11 kq ([]))) [0, 1, 2, 3, 4, 5, 6, 7, 8, 9, 10, 11, 12, 13] rfl) hDc hN 0 rfl rfl) rfl rfl hl.1 rfl (lv_room (Nat.le_of_ble_eq_true rfl)) (zat zrX12_ask_0_ok 13 rfl) ⟨(Nat.le_of_ble_eq_true rfl), (Nat.le_of_ble_eq_true rfl)⟩)) (fun r21 _ H locs hw hP hD _ hS => ?_)
    obtain rfl := hw
    obtain ⟨hP, hD⟩ := pd_mk ((a0, .inr (9, [.int 0, .int m_t.2.1, .int m_t.2.2, .ref a1, g6, g7, g8, g9, g10, g11, g12, g13, g14, g15, g16, g17, g18, g19, g20, g21, g22, g23, g24, g25, .int o21.2.1, .int o21.2.2.1, .int o21.2.2.2, g26, g27, g28])) :: bX11 a1 uq kq q_q []) hP hD
    refine lv_istore_n (lv' := [(2, .int o21.1), (1, .int o6), (0, .ref a0)]) hx hb (zat zrX12_ask_0_ok 14 rfl) rfl hl (by decide) rfl (fun ls hl => ?_)
    refine lv_aload_n hx hb (zat zrX12_ask_0_ok 15 rfl) rfl (lv_at hl 2 rfl) ?_
    refine lv_iload_n hx hb (zat zrX12_ask_0_ok 16 rfl) rfl (lv_at hl 0 rfl) ?_
    refine lv_bipush (v := (-2)) hx hb (zat zrX12_ask_0_ok 17 rfl) (by decide) ?_
    have J42 : ∀ (v42_t1 : Int32) (H : Heap) (locs : List Loc) (ls : Array Slot), f_X12_ask_J42 m_t o21 v42_t1 = some out → va_P (dC, dI) vwCl ((a0, .inr (9, [.int 0, .int m_t.2.1, .int m_t.2.2, .ref a1, g6, g7, g8, g9, g10, g11, g12, g13, g14, g15, g16, g17, g18, g19, g20, g21, g22, g23, g24, g25, .int o21.2.1, .int o21.2.2.1, .int o21.2.2.2, g26, g27, g28])) :: bX11 a1 uq kq q_q []) H → va_D A ((a0, .inr (9, [.int 0, .int m_t.2.1, .int m_t.2.2, .ref a1, g6, g7, g8, g9, g10, g11, g12, g13, g14, g15, g16, g17, g18, g19, g20, g21, g22, g23, g24, g25, .int o21.2.1, .int o21.2.2.1, .int o21.2.2.2, g26, g27, g28])) :: bX11 a1 uq kq q_q []) → va_S A s.heap H locs → lv_has ls 3 [] → W p l e (headSpec vfX12_ask { frames := 6, cells := 0, slots := 0, locals := 139 }).room s m ([.ref a0]).toArray below meth c H locs 0 0 QQ (F0 m 42 ls [.int v42_t1, .ref a0]) := by
      intro v42_t1 H locs ls h  hP hD hS hl
      rw [f_X12_ask_J42] at h
      obtain ⟨o42, eo42⟩ : ∃ o, o = f_X12_good v42_t1 ((0 : Int32), m_t.2) := ⟨_, rfl⟩
      have h := nm_of h o42 eo42
      refine ck_i (wc := ([(a0, .inr (9, [.int 0, .int m_t.2.1, .int m_t.2.2, .ref a1, g6, g7, g8, g9, g10, g11, g12, g13, g14, g15, g16, g17, g18, g19, g20, g21, g22, g23, g24, g25, .int o21.2.1, .int o21.2.2.1, .int o21.2.2.2, g26, g27, g28]))])) (wr := (bX11 a1 uq kq q_q [])) hP hD hK hS hA [0] [1, 2, 3, 4, 5, 6, 7, 8, 9, 10, 11, 12, 13, 14, 15] rfl rfl (by decide) (by decide) (by decide) (fun hPc hDc => (va_runV (As := [.int v42_t1]) (rest := []) ⟨hx, hb, hml, hown, hts⟩ (kfX12_good l dC dI a0 v42_t1 ((0 : Int32), m_t.2) (.ref a1) (g6) (g7) (g8) (g9) (g10) (g11) (g12) (g13) (g14) (g15) (g16) (g17) (g18) (g19) (g20) (g21) (g22) (g23) (g24) (g25) (.int o21.2.1) (.int o21.2.2.1) (.int o21.2.2.2) (g26) (g27) (g28) H.size o42 eo42.symm) (cwV 1 hts gfX12_ask_2 rfl rfl rfl (by decide +kernel) ⟨(Nat.le_of_ble_eq_true rfl), (Nat.le_of_ble_eq_true rfl)⟩) (PV hPc (hK.sub (tys' := ([])) [] rfl) hDc hN 0 rfl rfl) rfl rfl hl.1 rfl (lv_room (Nat.le_of_ble_eq_true rfl)) (zat zrX12_ask_0_ok 24 rfl) ⟨(Nat.le_of_ble_eq_true rfl), (Nat.le_of_ble_eq_true rfl)⟩)) (fun r42 _ H locs hw hP hD _ hS => ?_)
      obtain rfl := hw
      obtain ⟨hP, hD⟩ := pd_mk (bX11 a1 uq kq q_q ([(a0, .inr (9, [.int o42.2.1, .int o42.2.2.1, .int o42.2.2.2, .ref a1, g6, g7, g8, g9, g10, g11, g12, g13, g14, g15, g16, g17, g18, g19, g20, g21, g22, g23, g24, g25, .int o21.2.1, .int o21.2.2.1, .int o21.2.2.2, g26, g27, g28]))])) hP hD
      obtain rfl := Option.some.inj h
      obtain ⟨hP9, hD9⟩ := pd_sub ((a0, .inr (9, [.int o42.2.1, .int o42.2.2.1, .int o42.2.2.2, .ref a1, g6, g7, g8, g9, g10, g11, g12, g13, g14, g15, g16, g17, g18, g19, g20, g21, g22, g23, g24, g25, .int o21.2.1, .int o21.2.2.1, .int o21.2.2.2, g26, g27, g28])) :: bX11 a1 uq kq q_q []) [15, 0, 1, 2, 3, 4, 5, 6, 7, 8, 9, 10, 11, 12, 13, 14] hP hD (by decide) rfl
      have hK9 := hK.sub (tys' := []) [] rfl
      rw [hQQ]
      exact W.iret (v := o42.1) hx hb hr (fun t ht hW => ⟨⟨o42.1, (), rfl, rfl, by rw [ht]; exact hP9, va_K.moved hW.alike hK9, hD9⟩, hS.F ht⟩) hS.2.2 (zat zrX12_ask_0_ok 25 rfl)
    refine lv_icmp_ne (tgt := 37) hx hb (zat zrX12_ask_0_ok 18 rfl) (by decide) (fun c29 => ?_) (fun c29 => ?_)
    · have h := (if_neg c29).symm.trans h
      refine lv_aload_n hx hb (zat zrX12_ask_0_ok 21 rfl) rfl (lv_at hl 2 rfl) ?_
      refine lv_iload_n hx hb (zat zrX12_ask_0_ok 22 rfl) rfl (lv_at hl 0 rfl) ?_
      obtain ⟨o39, eo39, h⟩ := bd_of h
      refine ck_i (wc := ((a0, .inr (9, [.int 0, .int m_t.2.1, .int m_t.2.2, .ref a1, g6, g7, g8, g9, g10, g11, g12, g13, g14, g15, g16, g17, g18, g19, g20, g21, g22, g23, g24, g25, .int o21.2.1, .int o21.2.2.1, .int o21.2.2.2, g26, g27, g28])) :: bX11 a1 uq kq q_q [])) (wr := []) hP hD hK hS hA [0, 1, 2, 3, 4, 5, 6, 7, 8, 9, 10, 11, 12, 13, 14, 15] [] rfl rfl (by decide) (by decide) (by decide) (fun hPc hDc => (va_runV (As := [.int o21.1]) (rest := [.ref a0]) ⟨hx, hb, hml, hown, hts⟩ (kfX12_codeOf l dC dI a0 o21.1 a1 uq kq (.int 0) (.int m_t.2.1) (.int m_t.2.2) (g6) (g7) (g8) (g9) (g10) (g11) (g12) (g13) (g14) (g15) (g16) (g17) (g18) (g19) (g20) (g21) (g22) (g23) (g24) (g25) (.int o21.2.1) (.int o21.2.2.1) (.int o21.2.2.2) (g26) (g27) (g28) q_q H.size o39 eo39) (cwV 1 hts gfX12_ask_3 rfl rfl rfl (by decide +kernel) ⟨(Nat.le_of_ble_eq_true rfl), (Nat.le_of_ble_eq_true rfl)⟩) (PV hPc (hK.sub (tys' := (tX11 kq ([]))) [0, 1, 2, 3, 4, 5, 6, 7, 8, 9, 10, 11, 12, 13] rfl) hDc hN 0 rfl rfl) rfl rfl hl.1 rfl (lv_room (Nat.le_of_ble_eq_true rfl)) (zat zrX12_ask_0_ok 23 rfl) ⟨(Nat.le_of_ble_eq_true rfl), (Nat.le_of_ble_eq_true rfl)⟩)) (fun r39 _ H locs hw hP hD _ hS => ?_)
      obtain rfl := hw.symm
      obtain ⟨hP, hD⟩ := pd_mk ((a0, .inr (9, [.int 0, .int m_t.2.1, .int m_t.2.2, .ref a1, g6, g7, g8, g9, g10, g11, g12, g13, g14, g15, g16, g17, g18, g19, g20, g21, g22, g23, g24, g25, .int o21.2.1, .int o21.2.2.1, .int o21.2.2.2, g26, g27, g28])) :: bX11 a1 uq kq q_q []) hP hD
      exact J42 o39 H _ ls h  hP hD hS (lv_sub hl [] rfl)
    · have h := (if_pos c29).symm.trans h
      refine lv_bipush (v := (-2)) hx hb (zat zrX12_ask_0_ok 19 rfl) (by decide) ?_
      refine lv_goto (tgt := 42) hx hb (zat zrX12_ask_0_ok 20 rfl) (by decide) ?_
      exact J42 (-2 : Int32) H _ ls h  hP hD hS (lv_sub hl [] rfl)
  · have h := (if_neg c11).symm.trans h
    refine lv_aload_n hx hb (zat zrX12_ask_0_ok 8 rfl) rfl (lv_at hl 1 rfl) ?_
    refine lv_iload_n hx hb (zat zrX12_ask_0_ok 9 rfl) rfl (lv_at hl 0 rfl) ?_
    obtain ⟨o16, eo16⟩ : ∃ o, o = f_X12_refused o6 ((0 : Int32), m_t.2) := ⟨_, rfl⟩
    have h := nm_of h o16 eo16
    refine ck_i (wc := ([(a0, .inr (9, [.int 0, .int m_t.2.1, .int m_t.2.2, .ref a1, g6, g7, g8, g9, g10, g11, g12, g13, g14, g15, g16, g17, g18, g19, g20, g21, g22, g23, g24, g25, .int m_k.1, .int m_k.2.1, .int m_k.2.2, g26, g27, g28]))])) (wr := (bX11 a1 uq kq q_q [])) hP hD hK hS hA [0] [1, 2, 3, 4, 5, 6, 7, 8, 9, 10, 11, 12, 13, 14, 15] rfl rfl (by decide) (by decide) (by decide) (fun hPc hDc => (va_runV (As := [.int o6]) (rest := []) ⟨hx, hb, hml, hown, hts⟩ (kfX12_refused l dC dI a0 o6 ((0 : Int32), m_t.2) (.ref a1) (g6) (g7) (g8) (g9) (g10) (g11) (g12) (g13) (g14) (g15) (g16) (g17) (g18) (g19) (g20) (g21) (g22) (g23) (g24) (g25) (.int m_k.1) (.int m_k.2.1) (.int m_k.2.2) (g26) (g27) (g28) H.size o16 eo16.symm) (cwV 1 hts gfX12_ask_4 rfl rfl rfl (by decide +kernel) ⟨(Nat.le_of_ble_eq_true rfl), (Nat.le_of_ble_eq_true rfl)⟩) (PV hPc (hK.sub (tys' := ([])) [] rfl) hDc hN 0 rfl rfl) rfl rfl hl.1 rfl (lv_room (Nat.le_of_ble_eq_true rfl)) (zat zrX12_ask_0_ok 10 rfl) ⟨(Nat.le_of_ble_eq_true rfl), (Nat.le_of_ble_eq_true rfl)⟩)) (fun r16 _ H locs hw hP hD _ hS => ?_)
    obtain rfl := hw
    obtain ⟨hP, hD⟩ := pd_mk (bX11 a1 uq kq q_q ([(a0, .inr (9, [.int o16.1, .int o16.2.1, .int o16.2.2, .ref a1, g6, g7, g8, g9, g10, g11, g12, g13, g14, g15, g16, g17, g18, g19, g20, g21, g22, g23, g24, g25, .int m_k.1, .int m_k.2.1, .int m_k.2.2, g26, g27, g28]))])) hP hD
    obtain rfl := Option.some.inj h
    obtain ⟨hP9, hD9⟩ := pd_sub ((a0, .inr (9, [.int o16.1, .int o16.2.1, .int o16.2.2, .ref a1, g6, g7, g8, g9, g10, g11, g12, g13, g14, g15, g16, g17, g18, g19, g20, g21, g22, g23, g24, g25, .int m_k.1, .int m_k.2.1, .int m_k.2.2, g26, g27, g28])) :: bX11 a1 uq kq q_q []) [15, 0, 1, 2, 3, 4, 5, 6, 7, 8, 9, 10, 11, 12, 13, 14] hP hD (by decide) rfl
    have hK9 := hK.sub (tys' := []) [] rfl
    rw [hQQ]
    exact W.iret (v := (-1 : Int32)) hx hb hr (fun t ht hW => ⟨⟨(-1 : Int32), (), rfl, rfl, by rw [ht]; exact hP9, va_K.moved hW.alike hK9, hD9⟩, hS.F ht⟩) hS.2.2 (zat zrX12_ask_0_ok 11 rfl)
noncomputable def zrX12_askLeaves_0 : List ZR := zc 0 true (.aload_n 0) 1 (zc 1 true (.iconst 0) 1 (zc 2 true (.putfield 36) 3 (zc 5 true (.aload_n 0) 1 (zc 6 true (.invokevirtual 417) 3 (zc 9 true (.istore_n 1) 1 (zc 10 true (.iload_n 1) 1 (zc 11 true (.ifCond .le 9) 3 (zc 14 true (.aload_n 0) 1 (zc 15 true (.iload_n 1) 1 (zc 16 true (.invokevirtual 42) 3 (zc 19 true (.ireturn) 1 (zc 20 true (.aload_n 0) 1 (zc 21 true (.invokevirtual 433) 3 (zc 24 true (.pop) 1 (zc 25 true (.aload_n 0) 1 (zc 26 true (.aload_n 0) 1 (zc 27 true (.getfield 427) 3 (zc 30 true (.invokevirtual 46) 3 (zc 33 true (.ireturn) 1 ([]))))))))))))))))))))
theorem zrX12_askLeaves_0_ok : zck 0 ((zby cX12_askLeaves).drop 0) zrX12_askLeaves_0 = true := by decide +kernel
def vfX12_askLeaves : List Cond := List.cons (.code yX12_askLeaves cX12_askLeaves 2 (some .int)) (apW [.fieldLink RX12 36 "HookPierModel" "thrown" "I", .methodLink RX12 417 yX12_refusesDark, .instanceMethod yX12_refusesDark, .selects RX12 yX12_refusesDark yX12_refusesDark, .initialized RX12, .methodLink RX12 433 yX12_toAsk, .instanceMethod yX12_toAsk, .selects RX12 yX12_toAsk yX12_toAsk, .fieldLink RX12 427 "HookPierModel" "askLeft" "I", .methodLink RX12 46 yX12_good, .instanceMethod yX12_good, .selects RX12 yX12_good yX12_good, .methodLink RX12 42 yX12_refused, .instanceMethod yX12_refused, .selects RX12 yX12_refused yX12_refused] (apW wsX120 (apW vfX12_refusesDark (apW vfX12_toAsk (apW vfX12_good (vfX12_refused))))))
theorem ifX12_askLeaves_X12 : ∀ w ∈ wsX120, w ∈ vfX12_askLeaves := fun _ h => (List.mem_cons_of_mem _ (List.mem_append_right _ (List.mem_append_left _ h)))
theorem qfX12_askLeaves : Good vfX12_askLeaves := gd_cons (by decide +kernel) (gd_app (gd_dec (by decide +kernel) : Good [.fieldLink RX12 36 "HookPierModel" "thrown" "I", .methodLink RX12 417 yX12_refusesDark, .instanceMethod yX12_refusesDark, .selects RX12 yX12_refusesDark yX12_refusesDark, .initialized RX12, .methodLink RX12 433 yX12_toAsk, .instanceMethod yX12_toAsk, .selects RX12 yX12_toAsk yX12_toAsk, .fieldLink RX12 427 "HookPierModel" "askLeft" "I", .methodLink RX12 46 yX12_good, .instanceMethod yX12_good, .selects RX12 yX12_good yX12_good, .methodLink RX12 42 yX12_refused, .instanceMethod yX12_refused, .selects RX12 yX12_refused yX12_refused]) (gd_app qsX12 (gd_app qfX12_refusesDark (gd_app qfX12_toAsk (gd_app qfX12_good qfX12_refused)))))
theorem gfX12_askLeaves_0 : GoodIn vfX12_askLeaves (wsV RX12 417 RX12 yX12_refusesDark vfX12_refusesDark) := goodIn_app (goodIn_r [.methodLink RX12 417 yX12_refusesDark, .instanceMethod yX12_refusesDark, .selects RX12 yX12_refusesDark yX12_refusesDark, .initialized RX12] [2, 3, 4, 5] rfl (by decide +kernel)) (goodIn_m (fun _ h => (List.mem_cons_of_mem _ (List.mem_append_right _ (List.mem_append_right _ (List.mem_append_left _ h))))) qfX12_refusesDark)
theorem gfX12_askLeaves_1 : GoodIn vfX12_askLeaves (wsV RX12 433 RX12 yX12_toAsk vfX12_toAsk) := goodIn_app (goodIn_r [.methodLink RX12 433 yX12_toAsk, .instanceMethod yX12_toAsk, .selects RX12 yX12_toAsk yX12_toAsk, .initialized RX12] [6, 7, 8, 5] rfl (by decide +kernel)) (goodIn_m (fun _ h => (List.mem_cons_of_mem _ (List.mem_append_right _ (List.mem_append_right _ (List.mem_append_right _ (List.mem_append_left _ h)))))) qfX12_toAsk)
theorem gfX12_askLeaves_2 : GoodIn vfX12_askLeaves (wsV RX12 46 RX12 yX12_good vfX12_good) := goodIn_app (goodIn_r [.methodLink RX12 46 yX12_good, .instanceMethod yX12_good, .selects RX12 yX12_good yX12_good, .initialized RX12] [10, 11, 12, 5] rfl (by decide +kernel)) (goodIn_m (fun _ h => (List.mem_cons_of_mem _ (List.mem_append_right _ (List.mem_append_right _ (List.mem_append_right _ (List.mem_append_right _ (List.mem_append_left _ h))))))) qfX12_good)
theorem gfX12_askLeaves_3 : GoodIn vfX12_askLeaves (wsV RX12 42 RX12 yX12_refused vfX12_refused) := goodIn_app (goodIn_r [.methodLink RX12 42 yX12_refused, .instanceMethod yX12_refused, .selects RX12 yX12_refused yX12_refused, .initialized RX12] [13, 14, 15, 5] rfl (by decide +kernel)) (goodIn_m (fun _ h => (List.mem_cons_of_mem _ (List.mem_append_right _ (List.mem_append_right _ (List.mem_append_right _ (List.mem_append_right _ (List.mem_append_right _ h))))))) qfX12_refused)
set_option maxHeartbeats 2000000 in
set_option maxRecDepth 100000 in
theorem kfX12_askLeaves (l : Launch) (dC : Nat → ClassId) (dI : Nat → Nat → Nat) (a0 : Nat) (a1 : Nat) (uq : Nat → Nat) (kq : Nat → ClassId) (m_t : TX12_t) (m_k : TX12_k) (g6 : Value) (g7 : Value) (g8 : Value) (g9 : Value) (g10 : Value) (g11 : Value) (g12 : Value) (g13 : Value) (g14 : Value) (g15 : Value) (g16 : Value) (g17 : Value) (g18 : Value) (g19 : Value) (g20 : Value) (g21 : Value) (g22 : Value) (g23 : Value) (g24 : Value) (g25 : Value) (g26 : Value) (g27 : Value) (g28 : Value) (q_q : TX11_q) (sz : Nat) (out : (Int32 × TX12_t × TX12_k)) (h : f_X12_askLeaves m_t m_k q_q = some out) : KCi l yX12_askLeaves vfX12_askLeaves ({ frames := 6, cells := 0, slots := 0, locals := 139 }) (dC, dI) [.ref a0] sz ((a0, .inr (9, [.int m_t.1, .int m_t.2.1, .int m_t.2.2, .ref a1, g6, g7, g8, g9, g10, g11, g12, g13, g14, g15, g16, g17, g18, g19, g20, g21, g22, g23, g24, g25, .int m_k.1, .int m_k.2.1, .int m_k.2.2, g26, g27, g28])) :: bX11 a1 uq kq q_q []) (tX11 kq ([])) (fun (r : Int32) _ => r = out.1) ((a0, .inr (9, [.int out.2.1.1, .int out.2.1.2.1, .int out.2.1.2.2, .ref a1, g6, g7, g8, g9, g10, g11, g12, g13, g14, g15, g16, g17, g18, g19, g20, g21, g22, g23, g24, g25, .int out.2.2.1, .int out.2.2.2.1, .int out.2.2.2.2, g26, g27, g28])) :: bX11 a1 uq kq q_q []) 0 0 := by
  refine Met.ofW (cc := cX12_askLeaves) (maxL := 2) (ret := (some .int)) (by decide) rfl ?_
  intro p e s m args below meth c s₁ B0 hml hv
  obtain ⟨rfl, hsz, hP, hK, hD0, hN⟩ := hv
  have hx := B0.exec
  have hb := B0.bytes
  have hr := B0.returns
  have hts := atoms_spec (ws := vfX12_askLeaves) B0.pre
  have hown : s.vm.findClass RX12 = some m.cls := findClass_of_methodNamed B0.named
  have hlocks := B0.notSynchronized
  subst hsz
  have hD := hD0.self (sz := s.heap.size)
  generalize hAe : va_A ((a0, .inr (9, [.int m_t.1, .int m_t.2.1, .int m_t.2.2, .ref a1, g6, g7, g8, g9, g10, g11, g12, g13, g14, g15, g16, g17, g18, g19, g20, g21, g22, g23, g24, g25, .int m_k.1, .int m_k.2.1, .int m_k.2.2, g26, g27, g28])) :: bX11 a1 uq kq q_q []) s.heap.size = A at hD ⊢
  have hA : ∀ q : Nat, s.heap.size ≤ q → A q := fun q h => by rw [← hAe]; exact Or.inr h
  have hS : va_S A s.heap s.heap [] := va_S.rf
  have hP : va_P (dC, dI) vwCl ((a0, .inr (9, [.int m_t.1, .int m_t.2.1, .int m_t.2.2, .ref a1, g6, g7, g8, g9, g10, g11, g12, g13, g14, g15, g16, g17, g18, g19, g20, g21, g22, g23, g24, g25, .int m_k.1, .int m_k.2.1, .int m_k.2.2, g26, g27, g28])) :: bX11 a1 uq kq q_q []) s.heap := hP
  have hl := lv_entry ([.ref a0]) (n := 2) (Nat.le_of_ble_eq_true rfl)
  rw [lg_entry_eq]
  generalize (lg_sl ([.ref a0]) ++ List.replicate (2 - (lg_sl ([.ref a0])).length) Slot.unset).toArray = ls at hl ⊢
  have hl : lv_has ls 2 [(0, .ref a0)] := hl
  refine W_q (fun QQ hQQ => ?_)
  rw [f_X12_askLeaves] at h
  refine lv_aload_n hx hb (zat zrX12_askLeaves_0_ok 0 rfl) rfl (lv_at hl 0 rfl) ?_
  refine lv_iconst (v := 0) hx hb (zat zrX12_askLeaves_0_ok 1 rfl) (by decide) ?_
  refine va_put (D := (dC, dI)) (ci := 9) (v := .int 0) (ty := .int) (C := RX12) (T := TX12) (N := 30) hx hb hts ifX12_askLeaves_X12 tyX12 tyX12_ok nmX12 hown hK hP hD hS 0 rfl rfl 0 (by decide) (hts (.fieldLink RX12 36 "HookPierModel" "thrown" "I") (List.mem_of_getElem? (i := 1) rfl)) (fun _ h9 => h9) rfl (by decide +kernel) rfl rfl (Nat.le_of_ble_eq_true rfl) (zat zrX12_askLeaves_0_ok 2 rfl) (fun H locs hP hD hS => ?_)
  obtain ⟨hP, hD⟩ := pd_mk ((a0, .inr (9, [.int 0, .int m_t.2.1, .int m_t.2.2, .ref a1, g6, g7, g8, g9, g10, g11, g12, g13, g14, g15, g16, g17, g18, g19, g20, g21, g22, g23, g24, g25, .int m_k.1, .int m_k.2.1, .int m_k.2.2, g26, g27, g28])) :: bX11 a1 uq kq q_q []) hP hD
  refine lv_aload_n hx hb (zat zrX12_askLeaves_0_ok 3 rfl) rfl (lv_at hl 0 rfl) ?_
  obtain ⟨o6, eo6⟩ : ∃ o, o = f_X12_refusesDark q_q := ⟨_, rfl⟩
  have h := nm_of h o6 eo6
  refine ck_i (wc := ((a0, .inr (9, [.int 0, .int m_t.2.1, .int m_t.2.2, .ref a1, g6, g7, g8, g9, g10, g11, g12, g13, g14, g15, g16, g17, g18, g19, g20, g21, g22, g23, g24, g25, .int m_k.1, .int m_k.2.1, .int m_k.2.2, g26, g27, g28])) :: bX11 a1 uq kq q_q [])) (wr := []) hP hD hK hS hA [0, 1, 2, 3, 4, 5, 6, 7, 8, 9, 10, 11, 12, 13, 14, 15] [] rfl rfl (by decide) (by decide) (by decide) (fun hPc hDc => (va_runV (As := []) (rest := []) ⟨hx, hb, hml, hown, hts⟩ (kfX12_refusesDark l dC dI a0 a1 uq kq (.int 0) (.int m_t.2.1) (.int m_t.2.2) (g6) (g7) (g8) (g9) (g10) (g11) (g12) (g13) (g14) (g15) (g16) (g17) (g18) (g19) (g20) (g21) (g22) (g23) (g24) (g25) (.int m_k.1) (.int m_k.2.1) (.int m_k.2.2) (g26) (g27) (g28) q_q H.size o6 eo6.symm) (cwV 0 hts gfX12_askLeaves_0 rfl rfl rfl (by decide +kernel) ⟨(Nat.le_of_ble_eq_true rfl), (Nat.le_of_ble_eq_true rfl)⟩) (PV hPc (hK.sub (tys' := (tX11 kq ([]))) [0, 1, 2, 3, 4, 5, 6, 7, 8, 9, 10, 11, 12, 13] rfl) hDc hN 0 rfl rfl) rfl rfl hl.1 rfl (lv_room (Nat.le_of_ble_eq_true rfl)) (zat zrX12_askLeaves_0_ok 4 rfl) ⟨(Nat.le_of_ble_eq_true rfl), (Nat.le_of_ble_eq_true rfl)⟩)) (fun r6 _ H locs hw hP hD _ hS => ?_)
  obtain rfl := hw.symm
  obtain ⟨hP, hD⟩ := pd_mk ((a0, .inr (9, [.int 0, .int m_t.2.1, .int m_t.2.2, .ref a1, g6, g7, g8, g9, g10, g11, g12, g13, g14, g15, g16, g17, g18, g19, g20, g21, g22, g23, g24, g25, .int m_k.1, .int m_k.2.1, .int m_k.2.2, g26, g27, g28])) :: bX11 a1 uq kq q_q []) hP hD
  refine lv_istore_n (lv' := [(1, .int o6), (0, .ref a0)]) hx hb (zat zrX12_askLeaves_0_ok 5 rfl) rfl hl (by decide) rfl (fun ls hl => ?_)
  refine lv_iload_n hx hb (zat zrX12_askLeaves_0_ok 6 rfl) rfl (lv_at hl 0 rfl) ?_
  refine lv_if_le (tgt := 20) hx hb (zat zrX12_askLeaves_0_ok 7 rfl) (by decide) (fun c11 => ?_) (fun c11 => ?_)
  · have h := (if_pos c11).symm.trans h
    refine lv_aload_n hx hb (zat zrX12_askLeaves_0_ok 12 rfl) rfl (lv_at hl 1 rfl) ?_
    obtain ⟨o21, eo21, h⟩ := bd_of h
    refine ck_i (wc := ((a0, .inr (9, [.int 0, .int m_t.2.1, .int m_t.2.2, .ref a1, g6, g7, g8, g9, g10, g11, g12, g13, g14, g15, g16, g17, g18, g19, g20, g21, g22, g23, g24, g25, .int m_k.1, .int m_k.2.1, .int m_k.2.2, g26, g27, g28])) :: bX11 a1 uq kq q_q [])) (wr := []) hP hD hK hS hA [0, 1, 2, 3, 4, 5, 6, 7, 8, 9, 10, 11, 12, 13, 14, 15] [] rfl rfl (by decide) (by decide) (by decide) (fun hPc hDc => (va_runV (As := []) (rest := []) ⟨hx, hb, hml, hown, hts⟩ (kfX12_toAsk l dC dI a0 a1 uq kq m_k (.int 0) (.int m_t.2.1) (.int m_t.2.2) (g6) (g7) (g8) (g9) (g10) (g11) (g12) (g13) (g14) (g15) (g16) (g17) (g18) (g19) (g20) (g21) (g22) (g23) (g24) (g25) (g26) (g27) (g28) q_q H.size o21 eo21) (cwV 0 hts gfX12_askLeaves_1 rfl rfl rfl (by decide +kernel) ⟨(Nat.le_of_ble_eq_true rfl), (Nat.le_of_ble_eq_true rfl)⟩) (PV hPc (hK.sub (tys' := (tX11 kq ([]))) [0, 1, 2, 3, 4, 5, 6, 7, 8, 9, 10, 11, 12, 13] rfl) hDc hN 0 rfl rfl) rfl rfl hl.1 rfl (lv_room (Nat.le_of_ble_eq_true rfl)) (zat zrX12_askLeaves_0_ok 13 rfl) ⟨(Nat.le_of_ble_eq_true rfl), (Nat.le_of_ble_eq_true rfl)⟩)) (fun r21 _ H locs hw hP hD _ hS => ?_)
    obtain rfl := hw
    obtain ⟨hP, hD⟩ := pd_mk ((a0, .inr (9, [.int 0, .int m_t.2.1, .int m_t.2.2, .ref a1, g6, g7, g8, g9, g10, g11, g12, g13, g14, g15, g16, g17, g18, g19, g20, g21, g22, g23, g24, g25, .int o21.2.1, .int o21.2.2.1, .int o21.2.2.2, g26, g27, g28])) :: bX11 a1 uq kq q_q []) hP hD
    refine lv_pop hx hb (zat zrX12_askLeaves_0_ok 14 rfl) rfl ?_
    refine lv_aload_n hx hb (zat zrX12_askLeaves_0_ok 15 rfl) rfl (lv_at hl 1 rfl) ?_
    refine lv_aload_n hx hb (zat zrX12_askLeaves_0_ok 16 rfl) rfl (lv_at hl 1 rfl) ?_
    refine va_get (D := (dC, dI)) (ci := 9) (v := .int o21.2.1) (C := RX12) (T := TX12) (N := 30) hx hb hts ifX12_askLeaves_X12 hown hK hP 0 rfl rfl 24 (by decide) (hts (.fieldLink RX12 427 "HookPierModel" "askLeft" "I") (List.mem_of_getElem? (i := 9) rfl)) (fun _ h9 => h9) rfl (zat zrX12_askLeaves_0_ok 17 rfl) ?_
    obtain ⟨o30, eo30⟩ : ∃ o, o = f_X12_good o21.2.1 ((0 : Int32), m_t.2) := ⟨_, rfl⟩
    have h := nm_of h o30 eo30
    refine ck_i (wc := ([(a0, .inr (9, [.int 0, .int m_t.2.1, .int m_t.2.2, .ref a1, g6, g7, g8, g9, g10, g11, g12, g13, g14, g15, g16, g17, g18, g19, g20, g21, g22, g23, g24, g25, .int o21.2.1, .int o21.2.2.1, .int o21.2.2.2, g26, g27, g28]))])) (wr := (bX11 a1 uq kq q_q [])) hP hD hK hS hA [0] [1, 2, 3, 4, 5, 6, 7, 8, 9, 10, 11, 12, 13, 14, 15] rfl rfl (by decide) (by decide) (by decide) (fun hPc hDc => (va_runV (As := [.int o21.2.1]) (rest := []) ⟨hx, hb, hml, hown, hts⟩ (kfX12_good l dC dI a0 o21.2.1 ((0 : Int32), m_t.2) (.ref a1) (g6) (g7) (g8) (g9) (g10) (g11) (g12) (g13) (g14) (g15) (g16) (g17) (g18) (g19) (g20) (g21) (g22) (g23) (g24) (g25) (.int o21.2.1) (.int o21.2.2.1) (.int o21.2.2.2) (g26) (g27) (g28) H.size o30 eo30.symm) (cwV 1 hts gfX12_askLeaves_2 rfl rfl rfl (by decide +kernel) ⟨(Nat.le_of_ble_eq_true rfl), (Nat.le_of_ble_eq_true rfl)⟩) (PV hPc (hK.sub (tys' := ([])) [] rfl) hDc hN 0 rfl rfl) rfl rfl hl.1 rfl (lv_room (Nat.le_of_ble_eq_true rfl)) (zat zrX12_askLeaves_0_ok 18 rfl) ⟨(Nat.le_of_ble_eq_true rfl), (Nat.le_of_ble_eq_true rfl)⟩)) (fun r30 _ H locs hw hP hD _ hS => ?_)
    obtain rfl := hw
    obtain ⟨hP, hD⟩ := pd_mk (bX11 a1 uq kq q_q ([(a0, .inr (9, [.int o30.2.1, .int o30.2.2.1, .int o30.2.2.2, .ref a1, g6, g7, g8, g9, g10, g11, g12, g13, g14, g15, g16, g17, g18, g19, g20, g21, g22, g23, g24, g25, .int o21.2.1, .int o21.2.2.1, .int o21.2.2.2, g26, g27, g28]))])) hP hD
    obtain rfl := Option.some.inj h
    obtain ⟨hP9, hD9⟩ := pd_sub ((a0, .inr (9, [.int o30.2.1, .int o30.2.2.1, .int o30.2.2.2, .ref a1, g6, g7, g8, g9, g10, g11, g12, g13, g14, g15, g16, g17, g18, g19, g20, g21, g22, g23, g24, g25, .int o21.2.1, .int o21.2.2.1, .int o21.2.2.2, g26, g27, g28])) :: bX11 a1 uq kq q_q []) [15, 0, 1, 2, 3, 4, 5, 6, 7, 8, 9, 10, 11, 12, 13, 14] hP hD (by decide) rfl
    have hK9 := hK.sub (tys' := []) [] rfl
    rw [hQQ]
    exact W.iret (v := o30.1) hx hb hr (fun t ht hW => ⟨⟨o30.1, (), rfl, rfl, by rw [ht]; exact hP9, va_K.moved hW.alike hK9, hD9⟩, hS.F ht⟩) hS.2.2 (zat zrX12_askLeaves_0_ok 19 rfl)
  · have h := (if_neg c11).symm.trans h
    refine lv_aload_n hx hb (zat zrX12_askLeaves_0_ok 8 rfl) rfl (lv_at hl 1 rfl) ?_
    refine lv_iload_n hx hb (zat zrX12_askLeaves_0_ok 9 rfl) rfl (lv_at hl 0 rfl) ?_
    obtain ⟨o16, eo16⟩ : ∃ o, o = f_X12_refused o6 ((0 : Int32), m_t.2) := ⟨_, rfl⟩
    have h := nm_of h o16 eo16
    refine ck_i (wc := ([(a0, .inr (9, [.int 0, .int m_t.2.1, .int m_t.2.2, .ref a1, g6, g7, g8, g9, g10, g11, g12, g13, g14, g15, g16, g17, g18, g19, g20, g21, g22, g23, g24, g25, .int m_k.1, .int m_k.2.1, .int m_k.2.2, g26, g27, g28]))])) (wr := (bX11 a1 uq kq q_q [])) hP hD hK hS hA [0] [1, 2, 3, 4, 5, 6, 7, 8, 9, 10, 11, 12, 13, 14, 15] rfl rfl (by decide) (by decide) (by decide) (fun hPc hDc => (va_runV (As := [.int o6]) (rest := []) ⟨hx, hb, hml, hown, hts⟩ (kfX12_refused l dC dI a0 o6 ((0 : Int32), m_t.2) (.ref a1) (g6) (g7) (g8) (g9) (g10) (g11) (g12) (g13) (g14) (g15) (g16) (g17) (g18) (g19) (g20) (g21) (g22) (g23) (g24) (g25) (.int m_k.1) (.int m_k.2.1) (.int m_k.2.2) (g26) (g27) (g28) H.size o16 eo16.symm) (cwV 1 hts gfX12_askLeaves_3 rfl rfl rfl (by decide +kernel) ⟨(Nat.le_of_ble_eq_true rfl), (Nat.le_of_ble_eq_true rfl)⟩) (PV hPc (hK.sub (tys' := ([])) [] rfl) hDc hN 0 rfl rfl) rfl rfl hl.1 rfl (lv_room (Nat.le_of_ble_eq_true rfl)) (zat zrX12_askLeaves_0_ok 10 rfl) ⟨(Nat.le_of_ble_eq_true rfl), (Nat.le_of_ble_eq_true rfl)⟩)) (fun r16 _ H locs hw hP hD _ hS => ?_)
    obtain rfl := hw
    obtain ⟨hP, hD⟩ := pd_mk (bX11 a1 uq kq q_q ([(a0, .inr (9, [.int o16.1, .int o16.2.1, .int o16.2.2, .ref a1, g6, g7, g8, g9, g10, g11, g12, g13, g14, g15, g16, g17, g18, g19, g20, g21, g22, g23, g24, g25, .int m_k.1, .int m_k.2.1, .int m_k.2.2, g26, g27, g28]))])) hP hD
    obtain rfl := Option.some.inj h
    obtain ⟨hP9, hD9⟩ := pd_sub ((a0, .inr (9, [.int o16.1, .int o16.2.1, .int o16.2.2, .ref a1, g6, g7, g8, g9, g10, g11, g12, g13, g14, g15, g16, g17, g18, g19, g20, g21, g22, g23, g24, g25, .int m_k.1, .int m_k.2.1, .int m_k.2.2, g26, g27, g28])) :: bX11 a1 uq kq q_q []) [15, 0, 1, 2, 3, 4, 5, 6, 7, 8, 9, 10, 11, 12, 13, 14] hP hD (by decide) rfl
    have hK9 := hK.sub (tys' := []) [] rfl
    rw [hQQ]
    exact W.iret (v := (-1 : Int32)) hx hb hr (fun t ht hW => ⟨⟨(-1 : Int32), (), rfl, rfl, by rw [ht]; exact hP9, va_K.moved hW.alike hK9, hD9⟩, hS.F ht⟩) hS.2.2 (zat zrX12_askLeaves_0_ok 11 rfl)
noncomputable def zrX12_judge_0 : List ZR := zc 0 true (.aload_n 0) 1 (zc 1 true (.iconst 0) 1 (zc 2 true (.putfield 36) 3 (zc 5 true (.aload_n 0) 1 (zc 6 true (.iload_n 1) 1 (zc 7 true (.invokevirtual 320) 3 (zc 10 true (.ifCond .ne 9) 3 (zc 13 true (.aload_n 0) 1 (zc 14 true (.iconst 1) 1 (zc 15 true (.invokevirtual 42) 3 (zc 18 true (.ireturn) 1 (zc 19 true (.aload_n 0) 1 (zc 20 true (.getfield 299) 3 (zc 23 true (.getfield 269) 3 (zc 26 true (.iconst (-1)) 1 (zc 27 true (.if_icmp .ne 12) 3 (zc 30 true (.aload_n 0) 1 (zc 31 true (.bipush 6) 2 (zc 33 true (.invokevirtual 42) 3 (zc 36 true (.goto 41) 3 (zc 39 true (.aload_n 0) 1 (zc 40 true (.aload_n 0) 1 (zc 41 true (.getfield 299) 3 (zc 44 true (.aload_n 0) 1 (zc 45 true (.getfield 299) 3 (zc 48 true (.getfield 259) 3 (zc 51 true (.iload_n 1) 1 (zc 52 true (.iaload) 1 (zc 53 true (.aload_n 0) 1 (zc 54 true (.getfield 299) 3 (zc 57 true (.getfield 261) 3 (zc 60 true (.iload_n 1) 1 (zc 61 true (.iaload) 1 (zc 62 true (.aload_n 0) 1 (zc 63 true (.getfield 299) 3 (zc 66 true (.getfield 265) 3 (zc 69 true (.iload_n 1) 1 (zc 70 true (.iaload) 1 (zc 71 true (.invokevirtual 414) 3 (zc 74 true (.invokevirtual 46) 3 (zc 77 true (.ireturn) 1 ([])))))))))))))))))))))))))))))))))))))))))
theorem zrX12_judge_0_ok : zck 0 ((zby cX12_judge).drop 0) zrX12_judge_0 = true := by decide +kernel
def vfX12_judge : List Cond := List.cons (.code yX12_judge cX12_judge 2 (some .int)) (apW [.fieldLink RX12 36 "HookPierModel" "thrown" "I", .methodLink RX12 320 yX12_isAnswer, .instanceMethod yX12_isAnswer, .selects RX12 yX12_isAnswer yX12_isAnswer, .initialized RX12, .fieldLink RX12 299 "HookPierModel" "pier" "LHookPierModel$Pier;", .methodLink RX12 414 yX11_wrongBite, .instanceMethod yX11_wrongBite, .selects RX11 yX11_wrongBite yX11_wrongBite, .initialized RX11, .methodLink RX12 46 yX12_good, .instanceMethod yX12_good, .selects RX12 yX12_good yX12_good, .methodLink RX12 42 yX12_refused, .instanceMethod yX12_refused, .selects RX12 yX12_refused yX12_refused] (apW wsX120 (apW wsX110 (apW vfX12_isAnswer (apW vfX11_wrongBite (apW vfX12_good (vfX12_refused)))))))
theorem ifX12_judge_X12 : ∀ w ∈ wsX120, w ∈ vfX12_judge := fun _ h => (List.mem_cons_of_mem _ (List.mem_append_right _ (List.mem_append_left _ h)))
theorem ifX12_judge_X11 : ∀ w ∈ wsX110, w ∈ vfX12_judge := fun _ h => (List.mem_cons_of_mem _ (List.mem_append_right _ (List.mem_append_right _ (List.mem_append_left _ h))))
theorem qfX12_judge : Good vfX12_judge := gd_cons (by decide +kernel) (gd_app (gd_dec (by decide +kernel) : Good [.fieldLink RX12 36 "HookPierModel" "thrown" "I", .methodLink RX12 320 yX12_isAnswer, .instanceMethod yX12_isAnswer, .selects RX12 yX12_isAnswer yX12_isAnswer, .initialized RX12, .fieldLink RX12 299 "HookPierModel" "pier" "LHookPierModel$Pier;", .methodLink RX12 414 yX11_wrongBite, .instanceMethod yX11_wrongBite, .selects RX11 yX11_wrongBite yX11_wrongBite, .initialized RX11, .methodLink RX12 46 yX12_good, .instanceMethod yX12_good, .selects RX12 yX12_good yX12_good, .methodLink RX12 42 yX12_refused, .instanceMethod yX12_refused, .selects RX12 yX12_refused yX12_refused]) (gd_app qsX12 (gd_app qsX11 (gd_app qfX12_isAnswer (gd_app qfX11_wrongBite (gd_app qfX12_good qfX12_refused))))))
theorem gfX12_judge_0 : GoodIn vfX12_judge (wsV RX12 320 RX12 yX12_isAnswer vfX12_isAnswer) := goodIn_app (goodIn_r [.methodLink RX12 320 yX12_isAnswer, .instanceMethod yX12_isAnswer, .selects RX12 yX12_isAnswer yX12_isAnswer, .initialized RX12] [2, 3, 4, 5] rfl (by decide +kernel)) (goodIn_m (fun _ h => (List.mem_cons_of_mem _ (List.mem_append_right _ (List.mem_append_right _ (List.mem_append_right _ (List.mem_append_left _ h)))))) qfX12_isAnswer)
theorem gfX12_judge_1 : GoodIn vfX12_judge (wsV RX12 414 RX11 yX11_wrongBite vfX11_wrongBite) := goodIn_app (goodIn_r [.methodLink RX12 414 yX11_wrongBite, .instanceMethod yX11_wrongBite, .selects RX11 yX11_wrongBite yX11_wrongBite, .initialized RX11] [7, 8, 9, 10] rfl (by decide +kernel)) (goodIn_m (fun _ h => (List.mem_cons_of_mem _ (List.mem_append_right _ (List.mem_append_right _ (List.mem_append_right _ (List.mem_append_right _ (List.mem_append_left _ h))))))) qfX11_wrongBite)
theorem gfX12_judge_2 : GoodIn vfX12_judge (wsV RX12 46 RX12 yX12_good vfX12_good) := goodIn_app (goodIn_r [.methodLink RX12 46 yX12_good, .instanceMethod yX12_good, .selects RX12 yX12_good yX12_good, .initialized RX12] [11, 12, 13, 5] rfl (by decide +kernel)) (goodIn_m (fun _ h => (List.mem_cons_of_mem _ (List.mem_append_right _ (List.mem_append_right _ (List.mem_append_right _ (List.mem_append_right _ (List.mem_append_right _ (List.mem_append_left _ h)))))))) qfX12_good)
theorem gfX12_judge_3 : GoodIn vfX12_judge (wsV RX12 42 RX12 yX12_refused vfX12_refused) := goodIn_app (goodIn_r [.methodLink RX12 42 yX12_refused, .instanceMethod yX12_refused, .selects RX12 yX12_refused yX12_refused, .initialized RX12] [14, 15, 16, 5] rfl (by decide +kernel)) (goodIn_m (fun _ h => (List.mem_cons_of_mem _ (List.mem_append_right _ (List.mem_append_right _ (List.mem_append_right _ (List.mem_append_right _ (List.mem_append_right _ (List.mem_append_right _ h)))))))) qfX12_refused)
set_option maxHeartbeats 2000000 in
set_option maxRecDepth 100000 in
theorem kfX12_judge (l : Launch) (dC : Nat → ClassId) (dI : Nat → Nat → Nat) (a0 : Nat) (k1 : Int32) (a2 : Nat) (uq : Nat → Nat) (kq : Nat → ClassId) (m_t : TX12_t) (g6 : Value) (g7 : Value) (g8 : Value) (g9 : Value) (g10 : Value) (g11 : Value) (g12 : Value) (g13 : Value) (g14 : Value) (g15 : Value) (g16 : Value) (g17 : Value) (g18 : Value) (g19 : Value) (g20 : Value) (g21 : Value) (g22 : Value) (g23 : Value) (g24 : Value) (g25 : Value) (g26 : Value) (g27 : Value) (g28 : Value) (g29 : Value) (g30 : Value) (g31 : Value) (q_q : TX11_q) (sz : Nat) (out : (Int32 × TX12_t)) (h : f_X12_judge k1 m_t q_q = some out) : KCi l yX12_judge vfX12_judge ({ frames := 3, cells := 0, slots := 0, locals := 71 }) (dC, dI) [.ref a0, .int k1] sz ((a0, .inr (9, [.int m_t.1, .int m_t.2.1, .int m_t.2.2, .ref a2, g6, g7, g8, g9, g10, g11, g12, g13, g14, g15, g16, g17, g18, g19, g20, g21, g22, g23, g24, g25, g26, g27, g28, g29, g30, g31])) :: bX11 a2 uq kq q_q []) (tX11 kq ([])) (fun (r : Int32) _ => r = out.1) ((a0, .inr (9, [.int out.2.1, .int out.2.2.1, .int out.2.2.2, .ref a2, g6, g7, g8, g9, g10, g11, g12, g13, g14, g15, g16, g17, g18, g19, g20, g21, g22, g23, g24, g25, g26, g27, g28, g29, g30, g31])) :: bX11 a2 uq kq q_q []) 0 0 := by
  refine Met.ofW (cc := cX12_judge) (maxL := 2) (ret := (some .int)) (by decide) rfl ?_
  intro p e s m args below meth c s₁ B0 hml hv
  obtain ⟨rfl, hsz, hP, hK, hD0, hN⟩ := hv
  have hx := B0.exec
  have hb := B0.bytes
  have hr := B0.returns
  have hts := atoms_spec (ws := vfX12_judge) B0.pre
  have hown : s.vm.findClass RX12 = some m.cls := findClass_of_methodNamed B0.named
  have hlocks := B0.notSynchronized
  subst hsz
  have hD := hD0.self (sz := s.heap.size)
  generalize hAe : va_A ((a0, .inr (9, [.int m_t.1, .int m_t.2.1, .int m_t.2.2, .ref a2, g6, g7, g8, g9, g10, g11, g12, g13, g14, g15, g16, g17, g18, g19, g20, g21, g22, g23, g24, g25, g26, g27, g28, g29, g30, g31])) :: bX11 a2 uq kq q_q []) s.heap.size = A at hD ⊢
  have hA : ∀ q : Nat, s.heap.size ≤ q → A q := fun q h => by rw [← hAe]; exact Or.inr h
  have hS : va_S A s.heap s.heap [] := va_S.rf
  have hP : va_P (dC, dI) vwCl ((a0, .inr (9, [.int m_t.1, .int m_t.2.1, .int m_t.2.2, .ref a2, g6, g7, g8, g9, g10, g11, g12, g13, g14, g15, g16, g17, g18, g19, g20, g21, g22, g23, g24, g25, g26, g27, g28, g29, g30, g31])) :: bX11 a2 uq kq q_q []) s.heap := hP
  have hl := lv_entry ([.ref a0, .int k1]) (n := 2) (Nat.le_of_ble_eq_true rfl)
  rw [lg_entry_eq]
  generalize (lg_sl ([.ref a0, .int k1]) ++ List.replicate (2 - (lg_sl ([.ref a0, .int k1])).length) Slot.unset).toArray = ls at hl ⊢
  have hl : lv_has ls 2 [(0, .ref a0), (1, .int k1)] := hl
  refine W_q (fun QQ hQQ => ?_)
  rw [f_X12_judge] at h
  refine lv_aload_n hx hb (zat zrX12_judge_0_ok 0 rfl) rfl (lv_at hl 0 rfl) ?_
  refine lv_iconst (v := 0) hx hb (zat zrX12_judge_0_ok 1 rfl) (by decide) ?_
  refine va_put (D := (dC, dI)) (ci := 9) (v := .int 0) (ty := .int) (C := RX12) (T := TX12) (N := 30) hx hb hts ifX12_judge_X12 tyX12 tyX12_ok nmX12 hown hK hP hD hS 0 rfl rfl 0 (by decide) (hts (.fieldLink RX12 36 "HookPierModel" "thrown" "I") (List.mem_of_getElem? (i := 1) rfl)) (fun _ h9 => h9) rfl (by decide +kernel) rfl rfl (Nat.le_of_ble_eq_true rfl) (zat zrX12_judge_0_ok 2 rfl) (fun H locs hP hD hS => ?_)
  obtain ⟨hP, hD⟩ := pd_mk ((a0, .inr (9, [.int 0, .int m_t.2.1, .int m_t.2.2, .ref a2, g6, g7, g8, g9, g10, g11, g12, g13, g14, g15, g16, g17, g18, g19, g20, g21, g22, g23, g24, g25, g26, g27, g28, g29, g30, g31])) :: bX11 a2 uq kq q_q []) hP hD
  refine lv_aload_n hx hb (zat zrX12_judge_0_ok 3 rfl) rfl (lv_at hl 0 rfl) ?_
  refine lv_iload_n hx hb (zat zrX12_judge_0_ok 4 rfl) rfl (lv_at hl 1 rfl) ?_
  obtain ⟨o7, eo7⟩ : ∃ o, o = f_X12_isAnswer k1 q_q := ⟨_, rfl⟩
  have h := nm_of h o7 eo7
  refine ck_i (wc := ((a0, .inr (9, [.int 0, .int m_t.2.1, .int m_t.2.2, .ref a2, g6, g7, g8, g9, g10, g11, g12, g13, g14, g15, g16, g17, g18, g19, g20, g21, g22, g23, g24, g25, g26, g27, g28, g29, g30, g31])) :: bX11 a2 uq kq q_q [])) (wr := []) hP hD hK hS hA [0, 1, 2, 3, 4, 5, 6, 7, 8, 9, 10, 11, 12, 13, 14, 15] [] rfl rfl (by decide) (by decide) (by decide) (fun hPc hDc => (va_runV (As := [.int k1]) (rest := []) ⟨hx, hb, hml, hown, hts⟩ (kfX12_isAnswer l dC dI a0 k1 a2 uq kq (.int 0) (.int m_t.2.1) (.int m_t.2.2) (g6) (g7) (g8) (g9) (g10) (g11) (g12) (g13) (g14) (g15) (g16) (g17) (g18) (g19) (g20) (g21) (g22) (g23) (g24) (g25) (g26) (g27) (g28) (g29) (g30) (g31) q_q H.size o7 eo7.symm) (cwV 1 hts gfX12_judge_0 rfl rfl rfl (by decide +kernel) ⟨(Nat.le_of_ble_eq_true rfl), (Nat.le_of_ble_eq_true rfl)⟩) (PV hPc (hK.sub (tys' := (tX11 kq ([]))) [0, 1, 2, 3, 4, 5, 6, 7, 8, 9, 10, 11, 12, 13] rfl) hDc hN 0 rfl rfl) rfl rfl hl.1 rfl (lv_room (Nat.le_of_ble_eq_true rfl)) (zat zrX12_judge_0_ok 5 rfl) ⟨(Nat.le_of_ble_eq_true rfl), (Nat.le_of_ble_eq_true rfl)⟩)) (fun r7 _ H locs hw hP hD _ hS => ?_)
  obtain ⟨hw, br7⟩ := hw
  obtain rfl := hw.symm
  obtain ⟨hP, hD⟩ := pd_mk ((a0, .inr (9, [.int 0, .int m_t.2.1, .int m_t.2.2, .ref a2, g6, g7, g8, g9, g10, g11, g12, g13, g14, g15, g16, g17, g18, g19, g20, g21, g22, g23, g24, g25, g26, g27, g28, g29, g30, g31])) :: bX11 a2 uq kq q_q []) hP hD
  refine lv_if_ne (tgt := 19) hx hb (zat zrX12_judge_0_ok 6 rfl) (by decide) (fun c10 => ?_) (fun c10 => ?_)
  · have h := (if_neg c10).symm.trans h
    refine lv_aload_n hx hb (zat zrX12_judge_0_ok 11 rfl) rfl (lv_at hl 0 rfl) ?_
    refine va_get (D := (dC, dI)) (ci := 9) (v := .ref a2) (C := RX12) (T := TX12) (N := 30) hx hb hts ifX12_judge_X12 hown hK hP 0 rfl rfl 3 (by decide) (hts (.fieldLink RX12 299 "HookPierModel" "pier" "LHookPierModel$Pier;") (List.mem_of_getElem? (i := 6) rfl)) (fun _ h9 => h9) rfl (zat zrX12_judge_0_ok 12 rfl) ?_
    refine va_getN (D := (dC, dI)) (ci := 8) (v := .int q_q.2.2.2.2.2.2.2.2.1) (C := RX11) (T := TX11) (N := 24) hx hb hts ifX12_judge_X11 hown hK hP 1 rfl rfl 8 (by decide) (va_Nw.use rfl (hN.1 (.fieldLinkNest RX12 269 "HookPierModel$Pier" "dark" "I" "HookPierModel") (List.mem_of_getElem? (i := 30) rfl))) (fun _ h9 => h9) rfl (zat zrX12_judge_0_ok 13 rfl) ?_
    refine lv_iconst (v := (-1)) hx hb (zat zrX12_judge_0_ok 14 rfl) (by decide) ?_
    refine lv_icmp_ne (tgt := 39) hx hb (zat zrX12_judge_0_ok 15 rfl) (by decide) (fun c27 => ?_) (fun c27 => ?_)
    · have h := (if_neg c27).symm.trans h
      refine lv_aload_n hx hb (zat zrX12_judge_0_ok 20 rfl) rfl (lv_at hl 0 rfl) ?_
      refine lv_aload_n hx hb (zat zrX12_judge_0_ok 21 rfl) rfl (lv_at hl 0 rfl) ?_
      refine va_get (D := (dC, dI)) (ci := 9) (v := .ref a2) (C := RX12) (T := TX12) (N := 30) hx hb hts ifX12_judge_X12 hown hK hP 0 rfl rfl 3 (by decide) (hts (.fieldLink RX12 299 "HookPierModel" "pier" "LHookPierModel$Pier;") (List.mem_of_getElem? (i := 6) rfl)) (fun _ h9 => h9) rfl (zat zrX12_judge_0_ok 22 rfl) ?_
      refine lv_aload_n hx hb (zat zrX12_judge_0_ok 23 rfl) rfl (lv_at hl 0 rfl) ?_
      refine va_get (D := (dC, dI)) (ci := 9) (v := .ref a2) (C := RX12) (T := TX12) (N := 30) hx hb hts ifX12_judge_X12 hown hK hP 0 rfl rfl 3 (by decide) (hts (.fieldLink RX12 299 "HookPierModel" "pier" "LHookPierModel$Pier;") (List.mem_of_getElem? (i := 6) rfl)) (fun _ h9 => h9) rfl (zat zrX12_judge_0_ok 24 rfl) ?_
      refine va_getN (D := (dC, dI)) (ci := 8) (v := .ref (uq 2)) (C := RX11) (T := TX11) (N := 24) hx hb hts ifX12_judge_X11 hown hK hP 1 rfl rfl 12 (by decide) (va_Nw.use rfl (hN.1 (.fieldLinkNest RX12 259 "HookPierModel$Pier" "spot" "[I" "HookPierModel") (List.mem_of_getElem? (i := 34) rfl))) (fun _ h9 => h9) rfl (zat zrX12_judge_0_ok 25 rfl) ?_
      refine lv_iload_n hx hb (zat zrX12_judge_0_ok 26 rfl) rfl (lv_at hl 1 rfl) ?_
      obtain ⟨hg52, h⟩ := gA_of h
      refine va_iald hx hb hK hP 4 2 rfl rfl hg52 (zat zrX12_judge_0_ok 27 rfl) ?_
      refine lv_aload_n hx hb (zat zrX12_judge_0_ok 28 rfl) rfl (lv_at hl 0 rfl) ?_
      refine va_get (D := (dC, dI)) (ci := 9) (v := .ref a2) (C := RX12) (T := TX12) (N := 30) hx hb hts ifX12_judge_X12 hown hK hP 0 rfl rfl 3 (by decide) (hts (.fieldLink RX12 299 "HookPierModel" "pier" "LHookPierModel$Pier;") (List.mem_of_getElem? (i := 6) rfl)) (fun _ h9 => h9) rfl (zat zrX12_judge_0_ok 29 rfl) ?_
      refine va_getN (D := (dC, dI)) (ci := 8) (v := .ref (uq 3)) (C := RX11) (T := TX11) (N := 24) hx hb hts ifX12_judge_X11 hown hK hP 1 rfl rfl 13 (by decide) (va_Nw.use rfl (hN.1 (.fieldLinkNest RX12 261 "HookPierModel$Pier" "depth" "[I" "HookPierModel") (List.mem_of_getElem? (i := 35) rfl))) (fun _ h9 => h9) rfl (zat zrX12_judge_0_ok 30 rfl) ?_
      refine lv_iload_n hx hb (zat zrX12_judge_0_ok 31 rfl) rfl (lv_at hl 1 rfl) ?_
      obtain ⟨hg61, h⟩ := gA_of h
      refine va_iald hx hb hK hP 5 3 rfl rfl hg61 (zat zrX12_judge_0_ok 32 rfl) ?_
      refine lv_aload_n hx hb (zat zrX12_judge_0_ok 33 rfl) rfl (lv_at hl 0 rfl) ?_
      refine va_get (D := (dC, dI)) (ci := 9) (v := .ref a2) (C := RX12) (T := TX12) (N := 30) hx hb hts ifX12_judge_X12 hown hK hP 0 rfl rfl 3 (by decide) (hts (.fieldLink RX12 299 "HookPierModel" "pier" "LHookPierModel$Pier;") (List.mem_of_getElem? (i := 6) rfl)) (fun _ h9 => h9) rfl (zat zrX12_judge_0_ok 34 rfl) ?_
      refine va_getN (D := (dC, dI)) (ci := 8) (v := .ref (uq 5)) (C := RX11) (T := TX11) (N := 24) hx hb hts ifX12_judge_X11 hown hK hP 1 rfl rfl 15 (by decide) (va_Nw.use rfl (hN.1 (.fieldLinkNest RX12 265 "HookPierModel$Pier" "likes" "[I" "HookPierModel") (List.mem_of_getElem? (i := 37) rfl))) (fun _ h9 => h9) rfl (zat zrX12_judge_0_ok 35 rfl) ?_
      refine lv_iload_n hx hb (zat zrX12_judge_0_ok 36 rfl) rfl (lv_at hl 1 rfl) ?_
      obtain ⟨hg70, h⟩ := gA_of h
      refine va_iald hx hb hK hP 7 5 rfl rfl hg70 (zat zrX12_judge_0_ok 37 rfl) ?_
      obtain ⟨o71, eo71, h⟩ := bd_of h
      refine ck_i (wc := (bX11 a2 uq kq q_q [])) (wr := ([(a0, .inr (9, [.int 0, .int m_t.2.1, .int m_t.2.2, .ref a2, g6, g7, g8, g9, g10, g11, g12, g13, g14, g15, g16, g17, g18, g19, g20, g21, g22, g23, g24, g25, g26, g27, g28, g29, g30, g31]))])) hP hD hK hS hA [1, 2, 3, 4, 5, 6, 7, 8, 9, 10, 11, 12, 13, 14, 15] [0] rfl rfl (by decide) (by decide) (by decide) (fun hPc hDc => (va_runV (As := [.int (q_q.2.2.2.2.2.2.2.2.2.2.2.2.1 (k1).toNatClampNeg), .int (q_q.2.2.2.2.2.2.2.2.2.2.2.2.2.1 (k1).toNatClampNeg), .int (q_q.2.2.2.2.2.2.2.2.2.2.2.2.2.2.2.1 (k1).toNatClampNeg)]) (rest := [.ref a0]) ⟨hx, hb, hml, hown, hts⟩ (kfX11_wrongBite l dC dI a2 (q_q.2.2.2.2.2.2.2.2.2.2.2.2.1 (k1).toNatClampNeg) (q_q.2.2.2.2.2.2.2.2.2.2.2.2.2.1 (k1).toNatClampNeg) (q_q.2.2.2.2.2.2.2.2.2.2.2.2.2.2.2.1 (k1).toNatClampNeg) uq kq q_q H.size o71 eo71) (cwV 3 hts gfX12_judge_1 rfl rfl rfl (by decide +kernel) ⟨(Nat.le_of_ble_eq_true rfl), (Nat.le_of_ble_eq_true rfl)⟩) (PV hPc (hK.sub (tys' := (tX11 kq ([]))) [0, 1, 2, 3, 4, 5, 6, 7, 8, 9, 10, 11, 12, 13] rfl) hDc hN 0 rfl rfl) rfl rfl hl.1 rfl (lv_room (Nat.le_of_ble_eq_true rfl)) (zat zrX12_judge_0_ok 38 rfl) ⟨(Nat.le_of_ble_eq_true rfl), (Nat.le_of_ble_eq_true rfl)⟩)) (fun r71 _ H locs hw hP hD _ hS => ?_)
      obtain rfl := hw.symm
      obtain ⟨hP, hD⟩ := pd_mk ((a0, .inr (9, [.int 0, .int m_t.2.1, .int m_t.2.2, .ref a2, g6, g7, g8, g9, g10, g11, g12, g13, g14, g15, g16, g17, g18, g19, g20, g21, g22, g23, g24, g25, g26, g27, g28, g29, g30, g31])) :: bX11 a2 uq kq q_q []) hP hD
      obtain ⟨o74, eo74⟩ : ∃ o, o = f_X12_good o71 ((0 : Int32), m_t.2) := ⟨_, rfl⟩
      have h := nm_of h o74 eo74
      refine ck_i (wc := ([(a0, .inr (9, [.int 0, .int m_t.2.1, .int m_t.2.2, .ref a2, g6, g7, g8, g9, g10, g11, g12, g13, g14, g15, g16, g17, g18, g19, g20, g21, g22, g23, g24, g25, g26, g27, g28, g29, g30, g31]))])) (wr := (bX11 a2 uq kq q_q [])) hP hD hK hS hA [0] [1, 2, 3, 4, 5, 6, 7, 8, 9, 10, 11, 12, 13, 14, 15] rfl rfl (by decide) (by decide) (by decide) (fun hPc hDc => (va_runV (As := [.int o71]) (rest := []) ⟨hx, hb, hml, hown, hts⟩ (kfX12_good l dC dI a0 o71 ((0 : Int32), m_t.2) (.ref a2) (g6) (g7) (g8) (g9) (g10) (g11) (g12) (g13) (g14) (g15) (g16) (g17) (g18) (g19) (g20) (g21) (g22) (g23) (g24) (g25) (g26) (g27) (g28) (g29) (g30) (g31) H.size o74 eo74.symm) (cwV 1 hts gfX12_judge_2 rfl rfl rfl (by decide +kernel) ⟨(Nat.le_of_ble_eq_true rfl), (Nat.le_of_ble_eq_true rfl)⟩) (PV hPc (hK.sub (tys' := ([])) [] rfl) hDc hN 0 rfl rfl) rfl rfl hl.1 rfl (lv_room (Nat.le_of_ble_eq_true rfl)) (zat zrX12_judge_0_ok 39 rfl) ⟨(Nat.le_of_ble_eq_true rfl), (Nat.le_of_ble_eq_true rfl)⟩)) (fun r74 _ H locs hw hP hD _ hS => ?_)
      obtain rfl := hw
      obtain ⟨hP, hD⟩ := pd_mk (bX11 a2 uq kq q_q ([(a0, .inr (9, [.int o74.2.1, .int o74.2.2.1, .int o74.2.2.2, .ref a2, g6, g7, g8, g9, g10, g11, g12, g13, g14, g15, g16, g17, g18, g19, g20, g21, g22, g23, g24, g25, g26, g27, g28, g29, g30, g31]))])) hP hD
      obtain rfl := Option.some.inj h
      obtain ⟨hP9, hD9⟩ := pd_sub ((a0, .inr (9, [.int o74.2.1, .int o74.2.2.1, .int o74.2.2.2, .ref a2, g6, g7, g8, g9, g10, g11, g12, g13, g14, g15, g16, g17, g18, g19, g20, g21, g22, g23, g24, g25, g26, g27, g28, g29, g30, g31])) :: bX11 a2 uq kq q_q []) [15, 0, 1, 2, 3, 4, 5, 6, 7, 8, 9, 10, 11, 12, 13, 14] hP hD (by decide) rfl
      have hK9 := hK.sub (tys' := []) [] rfl
      rw [hQQ]
      exact W.iret (v := o74.1) hx hb hr (fun t ht hW => ⟨⟨o74.1, (), rfl, rfl, by rw [ht]; exact hP9, va_K.moved hW.alike hK9, hD9⟩, hS.F ht⟩) hS.2.2 (zat zrX12_judge_0_ok 40 rfl)
    · have h := (if_pos c27).symm.trans h
      refine lv_aload_n hx hb (zat zrX12_judge_0_ok 16 rfl) rfl (lv_at hl 0 rfl) ?_
      refine lv_bipush (v := 6) hx hb (zat zrX12_judge_0_ok 17 rfl) (by decide) ?_
      obtain ⟨o33, eo33⟩ : ∃ o, o = f_X12_refused (6 : Int32) ((0 : Int32), m_t.2) := ⟨_, rfl⟩
      have h := nm_of h o33 eo33
      refine ck_i (wc := ([(a0, .inr (9, [.int 0, .int m_t.2.1, .int m_t.2.2, .ref a2, g6, g7, g8, g9, g10, g11, g12, g13, g14, g15, g16, g17, g18, g19, g20, g21, g22, g23, g24, g25, g26, g27, g28, g29, g30, g31]))])) (wr := (bX11 a2 uq kq q_q [])) hP hD hK hS hA [0] [1, 2, 3, 4, 5, 6, 7, 8, 9, 10, 11, 12, 13, 14, 15] rfl rfl (by decide) (by decide) (by decide) (fun hPc hDc => (va_runV (As := [.int 6]) (rest := []) ⟨hx, hb, hml, hown, hts⟩ (kfX12_refused l dC dI a0 (6 : Int32) ((0 : Int32), m_t.2) (.ref a2) (g6) (g7) (g8) (g9) (g10) (g11) (g12) (g13) (g14) (g15) (g16) (g17) (g18) (g19) (g20) (g21) (g22) (g23) (g24) (g25) (g26) (g27) (g28) (g29) (g30) (g31) H.size o33 eo33.symm) (cwV 1 hts gfX12_judge_3 rfl rfl rfl (by decide +kernel) ⟨(Nat.le_of_ble_eq_true rfl), (Nat.le_of_ble_eq_true rfl)⟩) (PV hPc (hK.sub (tys' := ([])) [] rfl) hDc hN 0 rfl rfl) rfl rfl hl.1 rfl (lv_room (Nat.le_of_ble_eq_true rfl)) (zat zrX12_judge_0_ok 18 rfl) ⟨(Nat.le_of_ble_eq_true rfl), (Nat.le_of_ble_eq_true rfl)⟩)) (fun r33 _ H locs hw hP hD _ hS => ?_)
      obtain rfl := hw
      obtain ⟨hP, hD⟩ := pd_mk (bX11 a2 uq kq q_q ([(a0, .inr (9, [.int o33.1, .int o33.2.1, .int o33.2.2, .ref a2, g6, g7, g8, g9, g10, g11, g12, g13, g14, g15, g16, g17, g18, g19, g20, g21, g22, g23, g24, g25, g26, g27, g28, g29, g30, g31]))])) hP hD
      refine lv_goto (tgt := 77) hx hb (zat zrX12_judge_0_ok 19 rfl) (by decide) ?_
      obtain rfl := Option.some.inj h
      obtain ⟨hP9, hD9⟩ := pd_sub ((a0, .inr (9, [.int o33.1, .int o33.2.1, .int o33.2.2, .ref a2, g6, g7, g8, g9, g10, g11, g12, g13, g14, g15, g16, g17, g18, g19, g20, g21, g22, g23, g24, g25, g26, g27, g28, g29, g30, g31])) :: bX11 a2 uq kq q_q []) [15, 0, 1, 2, 3, 4, 5, 6, 7, 8, 9, 10, 11, 12, 13, 14] hP hD (by decide) rfl
      have hK9 := hK.sub (tys' := []) [] rfl
      rw [hQQ]
      exact W.iret (v := (-1 : Int32)) hx hb hr (fun t ht hW => ⟨⟨(-1 : Int32), (), rfl, rfl, by rw [ht]; exact hP9, va_K.moved hW.alike hK9, hD9⟩, hS.F ht⟩) hS.2.2 (zat zrX12_judge_0_ok 40 rfl)
  · have h := (if_pos c10).symm.trans h
    refine lv_aload_n hx hb (zat zrX12_judge_0_ok 7 rfl) rfl (lv_at hl 0 rfl) ?_
    refine lv_iconst (v := 1) hx hb (zat zrX12_judge_0_ok 8 rfl) (by decide) ?_
    obtain ⟨o15, eo15⟩ : ∃ o, o = f_X12_refused (1 : Int32) ((0 : Int32), m_t.2) := ⟨_, rfl⟩
    have h := nm_of h o15 eo15
    refine ck_i (wc := ([(a0, .inr (9, [.int 0, .int m_t.2.1, .int m_t.2.2, .ref a2, g6, g7, g8, g9, g10, g11, g12, g13, g14, g15, g16, g17, g18, g19, g20, g21, g22, g23, g24, g25, g26, g27, g28, g29, g30, g31]))])) (wr := (bX11 a2 uq kq q_q [])) hP hD hK hS hA [0] [1, 2, 3, 4, 5, 6, 7, 8, 9, 10, 11, 12, 13, 14, 15] rfl rfl (by decide) (by decide) (by decide) (fun hPc hDc => (va_runV (As := [.int 1]) (rest := []) ⟨hx, hb, hml, hown, hts⟩ (kfX12_refused l dC dI a0 (1 : Int32) ((0 : Int32), m_t.2) (.ref a2) (g6) (g7) (g8) (g9) (g10) (g11) (g12) (g13) (g14) (g15) (g16) (g17) (g18) (g19) (g20) (g21) (g22) (g23) (g24) (g25) (g26) (g27) (g28) (g29) (g30) (g31) H.size o15 eo15.symm) (cwV 1 hts gfX12_judge_3 rfl rfl rfl (by decide +kernel) ⟨(Nat.le_of_ble_eq_true rfl), (Nat.le_of_ble_eq_true rfl)⟩) (PV hPc (hK.sub (tys' := ([])) [] rfl) hDc hN 0 rfl rfl) rfl rfl hl.1 rfl (lv_room (Nat.le_of_ble_eq_true rfl)) (zat zrX12_judge_0_ok 9 rfl) ⟨(Nat.le_of_ble_eq_true rfl), (Nat.le_of_ble_eq_true rfl)⟩)) (fun r15 _ H locs hw hP hD _ hS => ?_)
    obtain rfl := hw
    obtain ⟨hP, hD⟩ := pd_mk (bX11 a2 uq kq q_q ([(a0, .inr (9, [.int o15.1, .int o15.2.1, .int o15.2.2, .ref a2, g6, g7, g8, g9, g10, g11, g12, g13, g14, g15, g16, g17, g18, g19, g20, g21, g22, g23, g24, g25, g26, g27, g28, g29, g30, g31]))])) hP hD
    obtain rfl := Option.some.inj h
    obtain ⟨hP9, hD9⟩ := pd_sub ((a0, .inr (9, [.int o15.1, .int o15.2.1, .int o15.2.2, .ref a2, g6, g7, g8, g9, g10, g11, g12, g13, g14, g15, g16, g17, g18, g19, g20, g21, g22, g23, g24, g25, g26, g27, g28, g29, g30, g31])) :: bX11 a2 uq kq q_q []) [15, 0, 1, 2, 3, 4, 5, 6, 7, 8, 9, 10, 11, 12, 13, 14] hP hD (by decide) rfl
    have hK9 := hK.sub (tys' := []) [] rfl
    rw [hQQ]
    exact W.iret (v := (-1 : Int32)) hx hb hr (fun t ht hW => ⟨⟨(-1 : Int32), (), rfl, rfl, by rw [ht]; exact hP9, va_K.moved hW.alike hK9, hD9⟩, hS.F ht⟩) hS.2.2 (zat zrX12_judge_0_ok 10 rfl)
noncomputable def zrX12_worth_0 : List ZR := zc 0 true (.aload_n 0) 1 (zc 1 true (.iconst 0) 1 (zc 2 true (.putfield 36) 3 (zc 5 true (.aload_n 0) 1 (zc 6 true (.iload_n 1) 1 (zc 7 true (.invokevirtual 320) 3 (zc 10 true (.ifCond .ne 9) 3 (zc 13 true (.aload_n 0) 1 (zc 14 true (.iconst 1) 1 (zc 15 true (.invokevirtual 42) 3 (zc 18 true (.ireturn) 1 (zc 19 true (.iload_n 2) 1 (zc 20 true (.iconst 0) 1 (zc 21 true (.sipush 999) 3 (zc 24 true (.invokestatic 115) 3 (zc 27 true (.ifCond .eq 28) 3 (zc 30 true (.iload_n 3) 1 (zc 31 true (.iload_n 2) 1 (zc 32 true (.sipush 999) 3 (zc 35 true (.invokestatic 115) 3 (zc 38 true (.ifCond .eq 17) 3 (zc 41 true (.aload_n 0) 1 (zc 42 true (.aload_n 0) 1 (zc 43 true (.iload_n 1) 1 (zc 44 true (.iload_n 2) 1 (zc 45 true (.iload_n 3) 1 (zc 46 true (.invokevirtual 323) 3 (zc 49 true (.invokevirtual 46) 3 (zc 52 true (.goto 8) 3 (zc 55 true (.aload_n 0) 1 (zc 56 true (.iconst 2) 1 (zc 57 true (.invokevirtual 42) 3 (zc 60 true (.ireturn) 1 ([])))))))))))))))))))))))))))))))))
theorem zrX12_worth_0_ok : zck 0 ((zby cX12_worth).drop 0) zrX12_worth_0 = true := by decide +kernel
def vfX12_worth : List Cond := List.cons (.code yX12_worth cX12_worth 4 (some .int)) (apW [.fieldLink RX12 36 "HookPierModel" "thrown" "I", .methodLink RX12 320 yX12_isAnswer, .instanceMethod yX12_isAnswer, .selects RX12 yX12_isAnswer yX12_isAnswer, .initialized RX12, .methodLink RX12 115 yX12_in, .static yX12_in, .methodLink RX12 42 yX12_refused, .instanceMethod yX12_refused, .selects RX12 yX12_refused yX12_refused, .methodLink RX12 323 yX12_keeps, .instanceMethod yX12_keeps, .selects RX12 yX12_keeps yX12_keeps, .methodLink RX12 46 yX12_good, .instanceMethod yX12_good, .selects RX12 yX12_good yX12_good] (apW wsX120 (apW vfX12_isAnswer (apW vfX12_in (apW vfX12_refused (apW vfX12_keeps (vfX12_good)))))))
theorem ifX12_worth_X12 : ∀ w ∈ wsX120, w ∈ vfX12_worth := fun _ h => (List.mem_cons_of_mem _ (List.mem_append_right _ (List.mem_append_left _ h)))
theorem qfX12_worth : Good vfX12_worth := gd_cons (by decide +kernel) (gd_app (gd_dec (by decide +kernel) : Good [.fieldLink RX12 36 "HookPierModel" "thrown" "I", .methodLink RX12 320 yX12_isAnswer, .instanceMethod yX12_isAnswer, .selects RX12 yX12_isAnswer yX12_isAnswer, .initialized RX12, .methodLink RX12 115 yX12_in, .static yX12_in, .methodLink RX12 42 yX12_refused, .instanceMethod yX12_refused, .selects RX12 yX12_refused yX12_refused, .methodLink RX12 323 yX12_keeps, .instanceMethod yX12_keeps, .selects RX12 yX12_keeps yX12_keeps, .methodLink RX12 46 yX12_good, .instanceMethod yX12_good, .selects RX12 yX12_good yX12_good]) (gd_app qsX12 (gd_app qfX12_isAnswer (gd_app qfX12_in (gd_app qfX12_refused (gd_app qfX12_keeps qfX12_good))))))
theorem gfX12_worth_0 : GoodIn vfX12_worth (wsV RX12 320 RX12 yX12_isAnswer vfX12_isAnswer) := goodIn_app (goodIn_r [.methodLink RX12 320 yX12_isAnswer, .instanceMethod yX12_isAnswer, .selects RX12 yX12_isAnswer yX12_isAnswer, .initialized RX12] [2, 3, 4, 5] rfl (by decide +kernel)) (goodIn_m (fun _ h => (List.mem_cons_of_mem _ (List.mem_append_right _ (List.mem_append_right _ (List.mem_append_left _ h))))) qfX12_isAnswer)
theorem gfX12_worth_1 : GoodIn vfX12_worth (va_wsS RX12 115 yX12_in vfX12_in) := goodIn_app (goodIn_r [.methodLink RX12 115 yX12_in, .static yX12_in, .initialized RX12] [6, 7, 5] rfl (by decide +kernel)) (goodIn_m (fun _ h => (List.mem_cons_of_mem _ (List.mem_append_right _ (List.mem_append_right _ (List.mem_append_right _ (List.mem_append_left _ h)))))) qfX12_in)
theorem gfX12_worth_2 : GoodIn vfX12_worth (wsV RX12 42 RX12 yX12_refused vfX12_refused) := goodIn_app (goodIn_r [.methodLink RX12 42 yX12_refused, .instanceMethod yX12_refused, .selects RX12 yX12_refused yX12_refused, .initialized RX12] [8, 9, 10, 5] rfl (by decide +kernel)) (goodIn_m (fun _ h => (List.mem_cons_of_mem _ (List.mem_append_right _ (List.mem_append_right _ (List.mem_append_right _ (List.mem_append_right _ (List.mem_append_left _ h))))))) qfX12_refused)
theorem gfX12_worth_3 : GoodIn vfX12_worth (wsV RX12 323 RX12 yX12_keeps vfX12_keeps) := goodIn_app (goodIn_r [.methodLink RX12 323 yX12_keeps, .instanceMethod yX12_keeps, .selects RX12 yX12_keeps yX12_keeps, .initialized RX12] [11, 12, 13, 5] rfl (by decide +kernel)) (goodIn_m (fun _ h => (List.mem_cons_of_mem _ (List.mem_append_right _ (List.mem_append_right _ (List.mem_append_right _ (List.mem_append_right _ (List.mem_append_right _ (List.mem_append_left _ h)))))))) qfX12_keeps)
theorem gfX12_worth_4 : GoodIn vfX12_worth (wsV RX12 46 RX12 yX12_good vfX12_good) := goodIn_app (goodIn_r [.methodLink RX12 46 yX12_good, .instanceMethod yX12_good, .selects RX12 yX12_good yX12_good, .initialized RX12] [14, 15, 16, 5] rfl (by decide +kernel)) (goodIn_m (fun _ h => (List.mem_cons_of_mem _ (List.mem_append_right _ (List.mem_append_right _ (List.mem_append_right _ (List.mem_append_right _ (List.mem_append_right _ (List.mem_append_right _ h)))))))) qfX12_good)
set_option maxHeartbeats 2000000 in
set_option maxRecDepth 100000 in
theorem kfX12_worth (l : Launch) (dC : Nat → ClassId) (dI : Nat → Nat → Nat) (a0 : Nat) (k1 : Int32) (k2 : Int32) (k3 : Int32) (a4 : Nat) (uq : Nat → Nat) (kq : Nat → ClassId) (m_t : TX12_t) (g8 : Value) (g9 : Value) (g10 : Value) (g11 : Value) (g12 : Value) (g13 : Value) (g14 : Value) (g15 : Value) (g16 : Value) (g17 : Value) (g18 : Value) (g19 : Value) (g20 : Value) (g21 : Value) (g22 : Value) (g23 : Value) (g24 : Value) (g25 : Value) (g26 : Value) (g27 : Value) (g28 : Value) (g29 : Value) (g30 : Value) (g31 : Value) (g32 : Value) (g33 : Value) (q_q : TX11_q) (sz : Nat) (out : (Int32 × TX12_t)) (h : f_X12_worth k1 k2 k3 m_t q_q = some out) : KCi l yX12_worth vfX12_worth ({ frames := 1, cells := 0, slots := 0, locals := 24 }) (dC, dI) [.ref a0, .int k1, .int k2, .int k3] sz ((a0, .inr (9, [.int m_t.1, .int m_t.2.1, .int m_t.2.2, .ref a4, g8, g9, g10, g11, g12, g13, g14, g15, g16, g17, g18, g19, g20, g21, g22, g23, g24, g25, g26, g27, g28, g29, g30, g31, g32, g33])) :: bX11 a4 uq kq q_q []) (tX11 kq ([])) (fun (r : Int32) _ => r = out.1) ((a0, .inr (9, [.int out.2.1, .int out.2.2.1, .int out.2.2.2, .ref a4, g8, g9, g10, g11, g12, g13, g14, g15, g16, g17, g18, g19, g20, g21, g22, g23, g24, g25, g26, g27, g28, g29, g30, g31, g32, g33])) :: bX11 a4 uq kq q_q []) 0 0 := by
  refine Met.ofW (cc := cX12_worth) (maxL := 4) (ret := (some .int)) (by decide) rfl ?_
  intro p e s m args below meth c s₁ B0 hml hv
  obtain ⟨rfl, hsz, hP, hK, hD0, hN⟩ := hv
  have hx := B0.exec
  have hb := B0.bytes
  have hr := B0.returns
  have hts := atoms_spec (ws := vfX12_worth) B0.pre
  have hown : s.vm.findClass RX12 = some m.cls := findClass_of_methodNamed B0.named
  have hlocks := B0.notSynchronized
  subst hsz
  have hD := hD0.self (sz := s.heap.size)
  generalize hAe : va_A ((a0, .inr (9, [.int m_t.1, .int m_t.2.1, .int m_t.2.2, .ref a4, g8, g9, g10, g11, g12, g13, g14, g15, g16, g17, g18, g19, g20, g21, g22, g23, g24, g25, g26, g27, g28, g29, g30, g31, g32, g33])) :: bX11 a4 uq kq q_q []) s.heap.size = A at hD ⊢
  have hA : ∀ q : Nat, s.heap.size ≤ q → A q := fun q h => by rw [← hAe]; exact Or.inr h
  have hS : va_S A s.heap s.heap [] := va_S.rf
  have hP : va_P (dC, dI) vwCl ((a0, .inr (9, [.int m_t.1, .int m_t.2.1, .int m_t.2.2, .ref a4, g8, g9, g10, g11, g12, g13, g14, g15, g16, g17, g18, g19, g20, g21, g22, g23, g24, g25, g26, g27, g28, g29, g30, g31, g32, g33])) :: bX11 a4 uq kq q_q []) s.heap := hP
  have hl := lv_entry ([.ref a0, .int k1, .int k2, .int k3]) (n := 4) (Nat.le_of_ble_eq_true rfl)
  rw [lg_entry_eq]
  generalize (lg_sl ([.ref a0, .int k1, .int k2, .int k3]) ++ List.replicate (4 - (lg_sl ([.ref a0, .int k1, .int k2, .int k3])).length) Slot.unset).toArray = ls at hl ⊢
  have hl : lv_has ls 4 [(0, .ref a0), (1, .int k1), (2, .int k2), (3, .int k3)] := hl
  refine W_q (fun QQ hQQ => ?_)
  rw [f_X12_worth] at h
  refine lv_aload_n hx hb (zat zrX12_worth_0_ok 0 rfl) rfl (lv_at hl 0 rfl) ?_
  refine lv_iconst (v := 0) hx hb (zat zrX12_worth_0_ok 1 rfl) (by decide) ?_
  refine va_put (D := (dC, dI)) (ci := 9) (v := .int 0) (ty := .int) (C := RX12) (T := TX12) (N := 30) hx hb hts ifX12_worth_X12 tyX12 tyX12_ok nmX12 hown hK hP hD hS 0 rfl rfl 0 (by decide) (hts (.fieldLink RX12 36 "HookPierModel" "thrown" "I") (List.mem_of_getElem? (i := 1) rfl)) (fun _ h9 => h9) rfl (by decide +kernel) rfl rfl (Nat.le_of_ble_eq_true rfl) (zat zrX12_worth_0_ok 2 rfl) (fun H locs hP hD hS => ?_)
  obtain ⟨hP, hD⟩ := pd_mk ((a0, .inr (9, [.int 0, .int m_t.2.1, .int m_t.2.2, .ref a4, g8, g9, g10, g11, g12, g13, g14, g15, g16, g17, g18, g19, g20, g21, g22, g23, g24, g25, g26, g27, g28, g29, g30, g31, g32, g33])) :: bX11 a4 uq kq q_q []) hP hD
  refine lv_aload_n hx hb (zat zrX12_worth_0_ok 3 rfl) rfl (lv_at hl 0 rfl) ?_
  refine lv_iload_n hx hb (zat zrX12_worth_0_ok 4 rfl) rfl (lv_at hl 1 rfl) ?_
  obtain ⟨o7, eo7⟩ : ∃ o, o = f_X12_isAnswer k1 q_q := ⟨_, rfl⟩
  have h := nm_of h o7 eo7
  refine ck_i (wc := ((a0, .inr (9, [.int 0, .int m_t.2.1, .int m_t.2.2, .ref a4, g8, g9, g10, g11, g12, g13, g14, g15, g16, g17, g18, g19, g20, g21, g22, g23, g24, g25, g26, g27, g28, g29, g30, g31, g32, g33])) :: bX11 a4 uq kq q_q [])) (wr := []) hP hD hK hS hA [0, 1, 2, 3, 4, 5, 6, 7, 8, 9, 10, 11, 12, 13, 14, 15] [] rfl rfl (by decide) (by decide) (by decide) (fun hPc hDc => (va_runV (As := [.int k1]) (rest := []) ⟨hx, hb, hml, hown, hts⟩ (kfX12_isAnswer l dC dI a0 k1 a4 uq kq (.int 0) (.int m_t.2.1) (.int m_t.2.2) (g8) (g9) (g10) (g11) (g12) (g13) (g14) (g15) (g16) (g17) (g18) (g19) (g20) (g21) (g22) (g23) (g24) (g25) (g26) (g27) (g28) (g29) (g30) (g31) (g32) (g33) q_q H.size o7 eo7.symm) (cwV 1 hts gfX12_worth_0 rfl rfl rfl (by decide +kernel) ⟨(Nat.le_of_ble_eq_true rfl), (Nat.le_of_ble_eq_true rfl)⟩) (PV hPc (hK.sub (tys' := (tX11 kq ([]))) [0, 1, 2, 3, 4, 5, 6, 7, 8, 9, 10, 11, 12, 13] rfl) hDc hN 0 rfl rfl) rfl rfl hl.1 rfl (lv_room (Nat.le_of_ble_eq_true rfl)) (zat zrX12_worth_0_ok 5 rfl) ⟨(Nat.le_of_ble_eq_true rfl), (Nat.le_of_ble_eq_true rfl)⟩)) (fun r7 _ H locs hw hP hD _ hS => ?_)
  obtain ⟨hw, br7⟩ := hw
  obtain rfl := hw.symm
  obtain ⟨hP, hD⟩ := pd_mk ((a0, .inr (9, [.int 0, .int m_t.2.1, .int m_t.2.2, .ref a4, g8, g9, g10, g11, g12, g13, g14, g15, g16, g17, g18, g19, g20, g21, g22, g23, g24, g25, g26, g27, g28, g29, g30, g31, g32, g33])) :: bX11 a4 uq kq q_q []) hP hD
  refine lv_if_ne (tgt := 19) hx hb (zat zrX12_worth_0_ok 6 rfl) (by decide) (fun c10 => ?_) (fun c10 => ?_)
  · have h := (if_neg c10).symm.trans h
    refine lv_iload_n hx hb (zat zrX12_worth_0_ok 11 rfl) rfl (lv_at hl 2 rfl) ?_
    refine lv_iconst (v := 0) hx hb (zat zrX12_worth_0_ok 12 rfl) (by decide) ?_
    refine lv_sipush (v := 999) hx hb (zat zrX12_worth_0_ok 13 rfl) (by decide) ?_
    obtain ⟨o24, eo24⟩ : ∃ o, o = f_X12_in k2 (0 : Int32) (999 : Int32) := ⟨_, rfl⟩
    have h := nm_of h o24 eo24
    refine ck_i (wc := []) (wr := ((a0, .inr (9, [.int 0, .int m_t.2.1, .int m_t.2.2, .ref a4, g8, g9, g10, g11, g12, g13, g14, g15, g16, g17, g18, g19, g20, g21, g22, g23, g24, g25, g26, g27, g28, g29, g30, g31, g32, g33])) :: bX11 a4 uq kq q_q [])) hP hD hK hS hA [] [0, 1, 2, 3, 4, 5, 6, 7, 8, 9, 10, 11, 12, 13, 14, 15] rfl rfl (by decide) (by decide) (by decide) (fun hPc hDc => (va_runS (As := [.int k2, .int 0, .int 999]) (rest := []) ⟨hx, hb, hml, hown, hts⟩ (kfX12_in l dC dI k2 (0 : Int32) (999 : Int32) H.size o24 eo24.symm) (va_cwS 3 hts gfX12_worth_1 rfl rfl rfl (by decide +kernel) ⟨(Nat.le_of_ble_eq_true rfl), (Nat.le_of_ble_eq_true rfl)⟩) (PS hPc (hK.sub (tys' := ([])) [] rfl) hDc hN) rfl rfl hl.1 rfl (lv_room (Nat.le_of_ble_eq_true rfl)) (zat zrX12_worth_0_ok 14 rfl) ⟨(Nat.le_of_ble_eq_true rfl), (Nat.le_of_ble_eq_true rfl)⟩)) (fun r24 _ H locs hw hP hD _ hS => ?_)
    obtain ⟨hw, br24⟩ := hw
    obtain rfl := hw.symm
    obtain ⟨hP, hD⟩ := pd_mk ((a0, .inr (9, [.int 0, .int m_t.2.1, .int m_t.2.2, .ref a4, g8, g9, g10, g11, g12, g13, g14, g15, g16, g17, g18, g19, g20, g21, g22, g23, g24, g25, g26, g27, g28, g29, g30, g31, g32, g33])) :: bX11 a4 uq kq q_q []) hP hD
    have J55 : ∀ (H : Heap) (locs : List Loc) (ls : Array Slot), f_X12_worth_J55 m_t = some out → va_P (dC, dI) vwCl ((a0, .inr (9, [.int 0, .int m_t.2.1, .int m_t.2.2, .ref a4, g8, g9, g10, g11, g12, g13, g14, g15, g16, g17, g18, g19, g20, g21, g22, g23, g24, g25, g26, g27, g28, g29, g30, g31, g32, g33])) :: bX11 a4 uq kq q_q []) H → va_D A ((a0, .inr (9, [.int 0, .int m_t.2.1, .int m_t.2.2, .ref a4, g8, g9, g10, g11, g12, g13, g14, g15, g16, g17, g18, g19, g20, g21, g22, g23, g24, g25, g26, g27, g28, g29, g30, g31, g32, g33])) :: bX11 a4 uq kq q_q []) → va_S A s.heap H locs → lv_has ls 4 [(0, .ref a0)] → W p l e (headSpec vfX12_worth { frames := 1, cells := 0, slots := 0, locals := 24 }).room s m ([.ref a0, .int k1, .int k2, .int k3]).toArray below meth c H locs 0 0 QQ (F0 m 55 ls []) := by
      intro  H locs ls h  hP hD hS hl
      rw [f_X12_worth_J55] at h
      refine lv_aload_n hx hb (zat zrX12_worth_0_ok 29 rfl) rfl (lv_at hl 0 rfl) ?_
      refine lv_iconst (v := 2) hx hb (zat zrX12_worth_0_ok 30 rfl) (by decide) ?_
      obtain ⟨o57, eo57⟩ : ∃ o, o = f_X12_refused (2 : Int32) ((0 : Int32), m_t.2) := ⟨_, rfl⟩
      have h := nm_of h o57 eo57
      refine ck_i (wc := ([(a0, .inr (9, [.int 0, .int m_t.2.1, .int m_t.2.2, .ref a4, g8, g9, g10, g11, g12, g13, g14, g15, g16, g17, g18, g19, g20, g21, g22, g23, g24, g25, g26, g27, g28, g29, g30, g31, g32, g33]))])) (wr := (bX11 a4 uq kq q_q [])) hP hD hK hS hA [0] [1, 2, 3, 4, 5, 6, 7, 8, 9, 10, 11, 12, 13, 14, 15] rfl rfl (by decide) (by decide) (by decide) (fun hPc hDc => (va_runV (As := [.int 2]) (rest := []) ⟨hx, hb, hml, hown, hts⟩ (kfX12_refused l dC dI a0 (2 : Int32) ((0 : Int32), m_t.2) (.ref a4) (g8) (g9) (g10) (g11) (g12) (g13) (g14) (g15) (g16) (g17) (g18) (g19) (g20) (g21) (g22) (g23) (g24) (g25) (g26) (g27) (g28) (g29) (g30) (g31) (g32) (g33) H.size o57 eo57.symm) (cwV 1 hts gfX12_worth_2 rfl rfl rfl (by decide +kernel) ⟨(Nat.le_of_ble_eq_true rfl), (Nat.le_of_ble_eq_true rfl)⟩) (PV hPc (hK.sub (tys' := ([])) [] rfl) hDc hN 0 rfl rfl) rfl rfl hl.1 rfl (lv_room (Nat.le_of_ble_eq_true rfl)) (zat zrX12_worth_0_ok 31 rfl) ⟨(Nat.le_of_ble_eq_true rfl), (Nat.le_of_ble_eq_true rfl)⟩)) (fun r57 _ H locs hw hP hD _ hS => ?_)
      obtain rfl := hw
      obtain ⟨hP, hD⟩ := pd_mk (bX11 a4 uq kq q_q ([(a0, .inr (9, [.int o57.1, .int o57.2.1, .int o57.2.2, .ref a4, g8, g9, g10, g11, g12, g13, g14, g15, g16, g17, g18, g19, g20, g21, g22, g23, g24, g25, g26, g27, g28, g29, g30, g31, g32, g33]))])) hP hD
      obtain rfl := Option.some.inj h
      obtain ⟨hP9, hD9⟩ := pd_sub ((a0, .inr (9, [.int o57.1, .int o57.2.1, .int o57.2.2, .ref a4, g8, g9, g10, g11, g12, g13, g14, g15, g16, g17, g18, g19, g20, g21, g22, g23, g24, g25, g26, g27, g28, g29, g30, g31, g32, g33])) :: bX11 a4 uq kq q_q []) [15, 0, 1, 2, 3, 4, 5, 6, 7, 8, 9, 10, 11, 12, 13, 14] hP hD (by decide) rfl
      have hK9 := hK.sub (tys' := []) [] rfl
      rw [hQQ]
      exact W.iret (v := (-1 : Int32)) hx hb hr (fun t ht hW => ⟨⟨(-1 : Int32), (), rfl, rfl, by rw [ht]; exact hP9, va_K.moved hW.alike hK9, hD9⟩, hS.F ht⟩) hS.2.2 (zat zrX12_worth_0_ok 32 rfl)
    refine lv_if_eq (tgt := 55) hx hb (zat zrX12_worth_0_ok 15 rfl) (by decide) (fun c27 => ?_) (fun c27 => ?_)
    · have h := (if_pos c27).symm.trans h
      exact J55  H _ ls h  hP hD hS (lv_sub hl [0] rfl)
    · have h := (if_neg c27).symm.trans h
      refine lv_iload_n hx hb (zat zrX12_worth_0_ok 16 rfl) rfl (lv_at hl 3 rfl) ?_
      refine lv_iload_n hx hb (zat zrX12_worth_0_ok 17 rfl) rfl (lv_at hl 2 rfl) ?_
      refine lv_sipush (v := 999) hx hb (zat zrX12_worth_0_ok 18 rfl) (by decide) ?_
      obtain ⟨o35, eo35⟩ : ∃ o, o = f_X12_in k3 k2 (999 : Int32) := ⟨_, rfl⟩
      have h := nm_of h o35 eo35
      refine ck_i (wc := []) (wr := ((a0, .inr (9, [.int 0, .int m_t.2.1, .int m_t.2.2, .ref a4, g8, g9, g10, g11, g12, g13, g14, g15, g16, g17, g18, g19, g20, g21, g22, g23, g24, g25, g26, g27, g28, g29, g30, g31, g32, g33])) :: bX11 a4 uq kq q_q [])) hP hD hK hS hA [] [0, 1, 2, 3, 4, 5, 6, 7, 8, 9, 10, 11, 12, 13, 14, 15] rfl rfl (by decide) (by decide) (by decide) (fun hPc hDc => (va_runS (As := [.int k3, .int k2, .int 999]) (rest := []) ⟨hx, hb, hml, hown, hts⟩ (kfX12_in l dC dI k3 k2 (999 : Int32) H.size o35 eo35.symm) (va_cwS 3 hts gfX12_worth_1 rfl rfl rfl (by decide +kernel) ⟨(Nat.le_of_ble_eq_true rfl), (Nat.le_of_ble_eq_true rfl)⟩) (PS hPc (hK.sub (tys' := ([])) [] rfl) hDc hN) rfl rfl hl.1 rfl (lv_room (Nat.le_of_ble_eq_true rfl)) (zat zrX12_worth_0_ok 19 rfl) ⟨(Nat.le_of_ble_eq_true rfl), (Nat.le_of_ble_eq_true rfl)⟩)) (fun r35 _ H locs hw hP hD _ hS => ?_)
      obtain ⟨hw, br35⟩ := hw
      obtain rfl := hw.symm
      obtain ⟨hP, hD⟩ := pd_mk ((a0, .inr (9, [.int 0, .int m_t.2.1, .int m_t.2.2, .ref a4, g8, g9, g10, g11, g12, g13, g14, g15, g16, g17, g18, g19, g20, g21, g22, g23, g24, g25, g26, g27, g28, g29, g30, g31, g32, g33])) :: bX11 a4 uq kq q_q []) hP hD
      refine lv_if_eq (tgt := 55) hx hb (zat zrX12_worth_0_ok 20 rfl) (by decide) (fun c38 => ?_) (fun c38 => ?_)
      · have h := (if_pos c38).symm.trans h
        exact J55  H _ ls h  hP hD hS (lv_sub hl [0] rfl)
      · have h := (if_neg c38).symm.trans h
        refine lv_aload_n hx hb (zat zrX12_worth_0_ok 21 rfl) rfl (lv_at hl 0 rfl) ?_
        refine lv_aload_n hx hb (zat zrX12_worth_0_ok 22 rfl) rfl (lv_at hl 0 rfl) ?_
        refine lv_iload_n hx hb (zat zrX12_worth_0_ok 23 rfl) rfl (lv_at hl 1 rfl) ?_
        refine lv_iload_n hx hb (zat zrX12_worth_0_ok 24 rfl) rfl (lv_at hl 2 rfl) ?_
        refine lv_iload_n hx hb (zat zrX12_worth_0_ok 25 rfl) rfl (lv_at hl 3 rfl) ?_
        obtain ⟨o46, eo46, h⟩ := bd_of h
        refine ck_i (wc := ((a0, .inr (9, [.int 0, .int m_t.2.1, .int m_t.2.2, .ref a4, g8, g9, g10, g11, g12, g13, g14, g15, g16, g17, g18, g19, g20, g21, g22, g23, g24, g25, g26, g27, g28, g29, g30, g31, g32, g33])) :: bX11 a4 uq kq q_q [])) (wr := []) hP hD hK hS hA [0, 1, 2, 3, 4, 5, 6, 7, 8, 9, 10, 11, 12, 13, 14, 15] [] rfl rfl (by decide) (by decide) (by decide) (fun hPc hDc => (va_runV (As := [.int k1, .int k2, .int k3]) (rest := [.ref a0]) ⟨hx, hb, hml, hown, hts⟩ (kfX12_keeps l dC dI a0 k1 k2 k3 a4 uq kq (.int 0) (.int m_t.2.1) (.int m_t.2.2) (g8) (g9) (g10) (g11) (g12) (g13) (g14) (g15) (g16) (g17) (g18) (g19) (g20) (g21) (g22) (g23) (g24) (g25) (g26) (g27) (g28) (g29) (g30) (g31) (g32) (g33) q_q H.size o46 eo46) (cwV 3 hts gfX12_worth_3 rfl rfl rfl (by decide +kernel) ⟨(Nat.le_of_ble_eq_true rfl), (Nat.le_of_ble_eq_true rfl)⟩) (PV hPc (hK.sub (tys' := (tX11 kq ([]))) [0, 1, 2, 3, 4, 5, 6, 7, 8, 9, 10, 11, 12, 13] rfl) hDc hN 0 rfl rfl) rfl rfl hl.1 rfl (lv_room (Nat.le_of_ble_eq_true rfl)) (zat zrX12_worth_0_ok 26 rfl) ⟨(Nat.le_of_ble_eq_true rfl), (Nat.le_of_ble_eq_true rfl)⟩)) (fun r46 _ H locs hw hP hD _ hS => ?_)
        obtain rfl := hw.symm
        obtain ⟨hP, hD⟩ := pd_mk ((a0, .inr (9, [.int 0, .int m_t.2.1, .int m_t.2.2, .ref a4, g8, g9, g10, g11, g12, g13, g14, g15, g16, g17, g18, g19, g20, g21, g22, g23, g24, g25, g26, g27, g28, g29, g30, g31, g32, g33])) :: bX11 a4 uq kq q_q []) hP hD
        obtain ⟨o49, eo49⟩ : ∃ o, o = f_X12_good o46 ((0 : Int32), m_t.2) := ⟨_, rfl⟩
        have h := nm_of h o49 eo49
        refine ck_i (wc := ([(a0, .inr (9, [.int 0, .int m_t.2.1, .int m_t.2.2, .ref a4, g8, g9, g10, g11, g12, g13, g14, g15, g16, g17, g18, g19, g20, g21, g22, g23, g24, g25, g26, g27, g28, g29, g30, g31, g32, g33]))])) (wr := (bX11 a4 uq kq q_q [])) hP hD hK hS hA [0] [1, 2, 3, 4, 5, 6, 7, 8, 9, 10, 11, 12, 13, 14, 15] rfl rfl (by decide) (by decide) (by decide) (fun hPc hDc => (va_runV (As := [.int o46]) (rest := []) ⟨hx, hb, hml, hown, hts⟩ (kfX12_good l dC dI a0 o46 ((0 : Int32), m_t.2) (.ref a4) (g8) (g9) (g10) (g11) (g12) (g13) (g14) (g15) (g16) (g17) (g18) (g19) (g20) (g21) (g22) (g23) (g24) (g25) (g26) (g27) (g28) (g29) (g30) (g31) (g32) (g33) H.size o49 eo49.symm) (cwV 1 hts gfX12_worth_4 rfl rfl rfl (by decide +kernel) ⟨(Nat.le_of_ble_eq_true rfl), (Nat.le_of_ble_eq_true rfl)⟩) (PV hPc (hK.sub (tys' := ([])) [] rfl) hDc hN 0 rfl rfl) rfl rfl hl.1 rfl (lv_room (Nat.le_of_ble_eq_true rfl)) (zat zrX12_worth_0_ok 27 rfl) ⟨(Nat.le_of_ble_eq_true rfl), (Nat.le_of_ble_eq_true rfl)⟩)) (fun r49 _ H locs hw hP hD _ hS => ?_)
        obtain rfl := hw
        obtain ⟨hP, hD⟩ := pd_mk (bX11 a4 uq kq q_q ([(a0, .inr (9, [.int o49.2.1, .int o49.2.2.1, .int o49.2.2.2, .ref a4, g8, g9, g10, g11, g12, g13, g14, g15, g16, g17, g18, g19, g20, g21, g22, g23, g24, g25, g26, g27, g28, g29, g30, g31, g32, g33]))])) hP hD
        refine lv_goto (tgt := 60) hx hb (zat zrX12_worth_0_ok 28 rfl) (by decide) ?_
        obtain rfl := Option.some.inj h
        obtain ⟨hP9, hD9⟩ := pd_sub ((a0, .inr (9, [.int o49.2.1, .int o49.2.2.1, .int o49.2.2.2, .ref a4, g8, g9, g10, g11, g12, g13, g14, g15, g16, g17, g18, g19, g20, g21, g22, g23, g24, g25, g26, g27, g28, g29, g30, g31, g32, g33])) :: bX11 a4 uq kq q_q []) [15, 0, 1, 2, 3, 4, 5, 6, 7, 8, 9, 10, 11, 12, 13, 14] hP hD (by decide) rfl
        have hK9 := hK.sub (tys' := []) [] rfl
        rw [hQQ]
        exact W.iret (v := o49.1) hx hb hr (fun t ht hW => ⟨⟨o49.1, (), rfl, rfl, by rw [ht]; exact hP9, va_K.moved hW.alike hK9, hD9⟩, hS.F ht⟩) hS.2.2 (zat zrX12_worth_0_ok 32 rfl)
  · have h := (if_pos c10).symm.trans h
    refine lv_aload_n hx hb (zat zrX12_worth_0_ok 7 rfl) rfl (lv_at hl 0 rfl) ?_
    refine lv_iconst (v := 1) hx hb (zat zrX12_worth_0_ok 8 rfl) (by decide) ?_
    obtain ⟨o15, eo15⟩ : ∃ o, o = f_X12_refused (1 : Int32) ((0 : Int32), m_t.2) := ⟨_, rfl⟩
    have h := nm_of h o15 eo15
    refine ck_i (wc := ([(a0, .inr (9, [.int 0, .int m_t.2.1, .int m_t.2.2, .ref a4, g8, g9, g10, g11, g12, g13, g14, g15, g16, g17, g18, g19, g20, g21, g22, g23, g24, g25, g26, g27, g28, g29, g30, g31, g32, g33]))])) (wr := (bX11 a4 uq kq q_q [])) hP hD hK hS hA [0] [1, 2, 3, 4, 5, 6, 7, 8, 9, 10, 11, 12, 13, 14, 15] rfl rfl (by decide) (by decide) (by decide) (fun hPc hDc => (va_runV (As := [.int 1]) (rest := []) ⟨hx, hb, hml, hown, hts⟩ (kfX12_refused l dC dI a0 (1 : Int32) ((0 : Int32), m_t.2) (.ref a4) (g8) (g9) (g10) (g11) (g12) (g13) (g14) (g15) (g16) (g17) (g18) (g19) (g20) (g21) (g22) (g23) (g24) (g25) (g26) (g27) (g28) (g29) (g30) (g31) (g32) (g33) H.size o15 eo15.symm) (cwV 1 hts gfX12_worth_2 rfl rfl rfl (by decide +kernel) ⟨(Nat.le_of_ble_eq_true rfl), (Nat.le_of_ble_eq_true rfl)⟩) (PV hPc (hK.sub (tys' := ([])) [] rfl) hDc hN 0 rfl rfl) rfl rfl hl.1 rfl (lv_room (Nat.le_of_ble_eq_true rfl)) (zat zrX12_worth_0_ok 9 rfl) ⟨(Nat.le_of_ble_eq_true rfl), (Nat.le_of_ble_eq_true rfl)⟩)) (fun r15 _ H locs hw hP hD _ hS => ?_)
    obtain rfl := hw
    obtain ⟨hP, hD⟩ := pd_mk (bX11 a4 uq kq q_q ([(a0, .inr (9, [.int o15.1, .int o15.2.1, .int o15.2.2, .ref a4, g8, g9, g10, g11, g12, g13, g14, g15, g16, g17, g18, g19, g20, g21, g22, g23, g24, g25, g26, g27, g28, g29, g30, g31, g32, g33]))])) hP hD
    obtain rfl := Option.some.inj h
    obtain ⟨hP9, hD9⟩ := pd_sub ((a0, .inr (9, [.int o15.1, .int o15.2.1, .int o15.2.2, .ref a4, g8, g9, g10, g11, g12, g13, g14, g15, g16, g17, g18, g19, g20, g21, g22, g23, g24, g25, g26, g27, g28, g29, g30, g31, g32, g33])) :: bX11 a4 uq kq q_q []) [15, 0, 1, 2, 3, 4, 5, 6, 7, 8, 9, 10, 11, 12, 13, 14] hP hD (by decide) rfl
    have hK9 := hK.sub (tys' := []) [] rfl
    rw [hQQ]
    exact W.iret (v := (-1 : Int32)) hx hb hr (fun t ht hW => ⟨⟨(-1 : Int32), (), rfl, rfl, by rw [ht]; exact hP9, va_K.moved hW.alike hK9, hD9⟩, hS.F ht⟩) hS.2.2 (zat zrX12_worth_0_ok 10 rfl)
noncomputable def zrX12_refusesLoad_0 : List ZR := zc 0 true (.aload_n 0) 1 (zc 1 true (.getfield 299) 3 (zc 4 true (.ifnonnull 7) 3 (zc 7 false (.nop) 4 (zc 11 true (.iload_n 1) 1 (zc 12 true (.iconst 0) 1 (zc 13 true (.bipush 6) 2 (zc 15 true (.invokestatic 115) 3 (zc 18 true (.ifCond .eq 7) 3 (zc 21 true (.iconst 0) 1 (zc 22 true (.goto 4) 3 (zc 25 true (.iconst 2) 1 (zc 26 true (.ireturn) 1 ([])))))))))))))
theorem zrX12_refusesLoad_0_ok : zck 0 ((zby cX12_refusesLoad).drop 0) zrX12_refusesLoad_0 = true := by decide +kernel
def vfX12_refusesLoad : List Cond := List.cons (.code yX12_refusesLoad cX12_refusesLoad 2 (some .int)) (apW [.fieldLink RX12 299 "HookPierModel" "pier" "LHookPierModel$Pier;", .methodLink RX12 115 yX12_in, .static yX12_in, .initialized RX12] (apW wsX120 (vfX12_in)))
theorem ifX12_refusesLoad_X12 : ∀ w ∈ wsX120, w ∈ vfX12_refusesLoad := fun _ h => (List.mem_cons_of_mem _ (List.mem_append_right _ (List.mem_append_left _ h)))
theorem qfX12_refusesLoad : Good vfX12_refusesLoad := gd_cons (by decide +kernel) (gd_app (gd_dec (by decide +kernel) : Good [.fieldLink RX12 299 "HookPierModel" "pier" "LHookPierModel$Pier;", .methodLink RX12 115 yX12_in, .static yX12_in, .initialized RX12]) (gd_app qsX12 qfX12_in))
theorem gfX12_refusesLoad_0 : GoodIn vfX12_refusesLoad (va_wsS RX12 115 yX12_in vfX12_in) := goodIn_app (goodIn_r [.methodLink RX12 115 yX12_in, .static yX12_in, .initialized RX12] [2, 3, 4] rfl (by decide +kernel)) (goodIn_m (fun _ h => (List.mem_cons_of_mem _ (List.mem_append_right _ (List.mem_append_right _ h)))) qfX12_in)
set_option maxHeartbeats 2000000 in
set_option maxRecDepth 100000 in
theorem kfX12_refusesLoad (l : Launch) (dC : Nat → ClassId) (dI : Nat → Nat → Nat) (a0 : Nat) (k1 : Int32) (g2 : Value) (g3 : Value) (g4 : Value) (a5 : Nat) (g6 : Value) (g7 : Value) (g8 : Value) (g9 : Value) (g10 : Value) (g11 : Value) (g12 : Value) (g13 : Value) (g14 : Value) (g15 : Value) (g16 : Value) (g17 : Value) (g18 : Value) (g19 : Value) (g20 : Value) (g21 : Value) (g22 : Value) (g23 : Value) (g24 : Value) (g25 : Value) (g26 : Value) (g27 : Value) (g28 : Value) (g29 : Value) (g30 : Value) (g31 : Value) (sz : Nat) (out : Int32) (h : f_X12_refusesLoad k1 = out) : KDi l yX12_refusesLoad vfX12_refusesLoad ({ frames := 1, cells := 0, slots := 0, locals := 22 }) (dC, dI) [.ref a0, .int k1] sz ([(a0, .inr (9, [g2, g3, g4, .ref a5, g6, g7, g8, g9, g10, g11, g12, g13, g14, g15, g16, g17, g18, g19, g20, g21, g22, g23, g24, g25, g26, g27, g28, g29, g30, g31]))]) ([]) (fun (r : Int32) _ => r = out) 0 0 := by
  refine Met.ofW (cc := cX12_refusesLoad) (maxL := 2) (ret := (some .int)) (by decide) rfl ?_
  intro p e s m args below meth c s₁ B0 hml hv
  obtain ⟨rfl, hsz, hP, hK, hD0, hN⟩ := hv
  have hx := B0.exec
  have hb := B0.bytes
  have hr := B0.returns
  have hts := atoms_spec (ws := vfX12_refusesLoad) B0.pre
  have hown : s.vm.findClass RX12 = some m.cls := findClass_of_methodNamed B0.named
  have hlocks := B0.notSynchronized
  subst hsz
  have hD := hD0.self (sz := s.heap.size)
  generalize hAe : va_A ([(a0, .inr (9, [g2, g3, g4, .ref a5, g6, g7, g8, g9, g10, g11, g12, g13, g14, g15, g16, g17, g18, g19, g20, g21, g22, g23, g24, g25, g26, g27, g28, g29, g30, g31]))]) s.heap.size = A at hD ⊢
  have hA : ∀ q : Nat, s.heap.size ≤ q → A q := fun q h => by rw [← hAe]; exact Or.inr h
  have hS : va_S A s.heap s.heap [] := va_S.rf
  have hP : va_P (dC, dI) vwCl ([(a0, .inr (9, [g2, g3, g4, .ref a5, g6, g7, g8, g9, g10, g11, g12, g13, g14, g15, g16, g17, g18, g19, g20, g21, g22, g23, g24, g25, g26, g27, g28, g29, g30, g31]))]) s.heap := hP
  have hl := lv_entry ([.ref a0, .int k1]) (n := 2) (Nat.le_of_ble_eq_true rfl)
  rw [lg_entry_eq]
  generalize (lg_sl ([.ref a0, .int k1]) ++ List.replicate (2 - (lg_sl ([.ref a0, .int k1])).length) Slot.unset).toArray = ls at hl ⊢
  have hl : lv_has ls 2 [(0, .ref a0), (1, .int k1)] := hl
  refine W_q (fun QQ hQQ => ?_)
  rw [f_X12_refusesLoad] at h
  refine lv_aload_n hx hb (zat zrX12_refusesLoad_0_ok 0 rfl) rfl (lv_at hl 0 rfl) ?_
  refine va_get (D := (dC, dI)) (ci := 9) (v := .ref a5) (C := RX12) (T := TX12) (N := 30) hx hb hts ifX12_refusesLoad_X12 hown hK hP 0 rfl rfl 3 (by decide) (hts (.fieldLink RX12 299 "HookPierModel" "pier" "LHookPierModel$Pier;") (List.mem_of_getElem? (i := 1) rfl)) (fun _ h9 => h9) rfl (zat zrX12_refusesLoad_0_ok 1 rfl) ?_
  refine lv_ifnonnull (tgt := 11) hx hb (zat zrX12_refusesLoad_0_ok 2 rfl) (by decide) ?_
  refine lv_iload_n hx hb (zat zrX12_refusesLoad_0_ok 4 rfl) rfl (lv_at hl 1 rfl) ?_
  refine lv_iconst (v := 0) hx hb (zat zrX12_refusesLoad_0_ok 5 rfl) (by decide) ?_
  refine lv_bipush (v := 6) hx hb (zat zrX12_refusesLoad_0_ok 6 rfl) (by decide) ?_
  obtain ⟨o15, eo15⟩ : ∃ o, o = f_X12_in k1 (0 : Int32) (6 : Int32) := ⟨_, rfl⟩
  have h := nm_of h o15 eo15
  refine ck_i (wc := []) (wr := ([(a0, .inr (9, [g2, g3, g4, .ref a5, g6, g7, g8, g9, g10, g11, g12, g13, g14, g15, g16, g17, g18, g19, g20, g21, g22, g23, g24, g25, g26, g27, g28, g29, g30, g31]))])) hP hD hK hS hA [] [0] rfl rfl (by decide) (by decide) (by decide) (fun hPc hDc => (va_runS (As := [.int k1, .int 0, .int 6]) (rest := []) ⟨hx, hb, hml, hown, hts⟩ (kfX12_in l dC dI k1 (0 : Int32) (6 : Int32) s.heap.size o15 eo15.symm) (va_cwS 3 hts gfX12_refusesLoad_0 rfl rfl rfl (by decide +kernel) ⟨(Nat.le_of_ble_eq_true rfl), (Nat.le_of_ble_eq_true rfl)⟩) (PS hPc (hK.sub (tys' := ([])) [] rfl) hDc hN) rfl rfl hl.1 rfl (lv_room (Nat.le_of_ble_eq_true rfl)) (zat zrX12_refusesLoad_0_ok 7 rfl) ⟨(Nat.le_of_ble_eq_true rfl), (Nat.le_of_ble_eq_true rfl)⟩)) (fun r15 _ H locs hw hP hD _ hS => ?_)
  obtain ⟨hw, br15⟩ := hw
  obtain rfl := hw.symm
  obtain ⟨hP, hD⟩ := pd_mk ([(a0, .inr (9, [g2, g3, g4, .ref a5, g6, g7, g8, g9, g10, g11, g12, g13, g14, g15, g16, g17, g18, g19, g20, g21, g22, g23, g24, g25, g26, g27, g28, g29, g30, g31]))]) hP hD
  refine lv_if_eq (tgt := 25) hx hb (zat zrX12_refusesLoad_0_ok 8 rfl) (by decide) (fun c18 => ?_) (fun c18 => ?_)
  · have h := (if_pos c18).symm.trans h
    refine lv_iconst (v := 2) hx hb (zat zrX12_refusesLoad_0_ok 11 rfl) (by decide) ?_
    obtain rfl := h
    obtain ⟨hP9, hD9⟩ := pd_sub ([(a0, .inr (9, [g2, g3, g4, .ref a5, g6, g7, g8, g9, g10, g11, g12, g13, g14, g15, g16, g17, g18, g19, g20, g21, g22, g23, g24, g25, g26, g27, g28, g29, g30, g31]))]) [0] hP hD (by decide) rfl
    have hK9 := hK.sub (tys' := []) [] rfl
    rw [hQQ]
    exact W.iret (v := (2 : Int32)) hx hb hr (fun t ht hW => ⟨⟨(2 : Int32), (), rfl, rfl, by rw [ht]; exact hP9, va_K.moved hW.alike hK9, hD9⟩, hS.F ht⟩) hS.2.2 (zat zrX12_refusesLoad_0_ok 12 rfl)
  · have h := (if_neg c18).symm.trans h
    refine lv_iconst (v := 0) hx hb (zat zrX12_refusesLoad_0_ok 9 rfl) (by decide) ?_
    refine lv_goto (tgt := 26) hx hb (zat zrX12_refusesLoad_0_ok 10 rfl) (by decide) ?_
    obtain rfl := h
    obtain ⟨hP9, hD9⟩ := pd_sub ([(a0, .inr (9, [g2, g3, g4, .ref a5, g6, g7, g8, g9, g10, g11, g12, g13, g14, g15, g16, g17, g18, g19, g20, g21, g22, g23, g24, g25, g26, g27, g28, g29, g30, g31]))]) [0] hP hD (by decide) rfl
    have hK9 := hK.sub (tys' := []) [] rfl
    rw [hQQ]
    exact W.iret (v := (0 : Int32)) hx hb hr (fun t ht hW => ⟨⟨(0 : Int32), (), rfl, rfl, by rw [ht]; exact hP9, va_K.moved hW.alike hK9, hD9⟩, hS.F ht⟩) hS.2.2 (zat zrX12_refusesLoad_0_ok 12 rfl)
noncomputable def zrX12_loads_0 : List ZR := zc 0 true (.aload_n 0) 1 (zc 1 true (.iconst 0) 1 (zc 2 true (.putfield 436) 3 (zc 5 true (.aload_n 0) 1 (zc 6 true (.iconst 0) 1 (zc 7 true (.putfield 439) 3 (zc 10 true (.iconst 1) 1 (zc 11 true (.istore_n 2) 1 (zc 12 true (.iload_n 2) 1 (zc 13 true (.iconst 1) 1 (zc 14 true (.aload_n 0) 1 (zc 15 true (.getfield 299) 3 (zc 18 true (.getfield 231) 3 (zc 21 true (.ishl) 1 (zc 22 true (.if_icmp .ge 150) 3 (zc 25 true (.iconst 0) 1 (zc 26 true (.istore_n 3) 1 (zc 27 true (.iload_n 2) 1 (zc 28 true (.invokestatic 411) 3 (zc 31 true (.iload_n 1) 1 (zc 32 true (.if_icmp .gt 7) 3 (zc 35 true (.iconst 1) 1 (zc 36 true (.goto 4) 3 (zc 39 true (.iconst 0) 1 (zc 40 true (.istore 4) 2 (zc 42 true (.iconst 0) 1 (zc 43 true (.istore 5) 2 (zc 45 true (.iload 5) 2 (zc 47 true (.aload_n 0) 1 (zc 48 true (.getfield 299) 3 (zc 51 true (.getfield 231) 3 (zc 54 true (.if_icmp .ge 64) 3 (zc 57 true (.iload 4) 2 (zc 59 true (.ifCond .eq 59) 3 (zc 62 true (.iload_n 2) 1 (zc 63 true (.iload 5) 2 (zc 65 true (.invokestatic 390) 3 (zc 68 true (.ifCond .ne 6) 3 (zc 71 true (.goto 41) 3 (zc 74 true (.aload_n 0) 1 (zc 75 true (.getfield 17) 3 (zc 78 true (.iconst 0) 1 (zc 79 true (.iload 5) 2 (zc 81 true (.iadd) 1 (zc 82 true (.iaload) 1 (zc 83 true (.iconst 1) 1 (zc 84 true (.if_icmp .ne 7) 3 (zc 87 true (.iconst 1) 1 (zc 88 true (.goto 4) 3 (zc 91 true (.iconst 0) 1 (zc 92 true (.istore 4) 2 (zc 94 true (.iload_n 3) 1 (zc 95 true (.iload 4) 2 (zc 97 true (.ifCond .eq 12) 3 (zc 100 true (.aload_n 0) 1 (zc 101 true (.iload 5) 2 (zc 103 true (.invokevirtual 442) 3 (zc 106 true (.goto 4) 3 (zc 109 true (.iconst 0) 1 (zc 110 true (.iadd) 1 (zc 111 true (.istore_n 3) 1 (zc 112 true (.iinc 5 1) 3 (zc 115 true (.goto (-70)) 3 (zc 118 true (.iload 4) 2 ([]))))))))))))))))))))))))))))))))))))))))))))))))))))))))))))))))
theorem zrX12_loads_0_ok : zck 0 ((zby cX12_loads).drop 0) zrX12_loads_0 = true := by decide +kernel
noncomputable def zrX12_loads_1 : List ZR := zc 120 true (.ifCond .eq 46) 3 (zc 123 true (.iload_n 3) 1 (zc 124 true (.aload_n 0) 1 (zc 125 true (.getfield 439) 3 (zc 128 true (.if_icmp .lt 38) 3 (zc 131 true (.iload_n 3) 1 (zc 132 true (.aload_n 0) 1 (zc 133 true (.getfield 439) 3 (zc 136 true (.if_icmp .ne 20) 3 (zc 139 true (.iload_n 2) 1 (zc 140 true (.invokestatic 411) 3 (zc 143 true (.aload_n 0) 1 (zc 144 true (.getfield 436) 3 (zc 147 true (.invokestatic 411) 3 (zc 150 true (.if_icmp .lt 6) 3 (zc 153 true (.goto 13) 3 (zc 156 true (.aload_n 0) 1 (zc 157 true (.iload_n 2) 1 (zc 158 true (.putfield 436) 3 (zc 161 true (.aload_n 0) 1 (zc 162 true (.iload_n 3) 1 (zc 163 true (.putfield 439) 3 (zc 166 true (.iinc 2 1) 3 (zc 169 true (.goto (-157)) 3 (zc 172 true (.return_) 1 ([])))))))))))))))))))))))))
theorem zrX12_loads_1_ok : zck 120 ((zby cX12_loads).drop 120) zrX12_loads_1 = true := by decide +kernel
def vfX12_loads : List Cond := List.cons (.code yX12_loads cX12_loads 6 none) (apW [.fieldLink RX12 436 "HookPierModel" "loaded" "I", .fieldLink RX12 439 "HookPierModel" "loadedWorth" "I", .fieldLink RX12 299 "HookPierModel" "pier" "LHookPierModel$Pier;", .methodLink RX12 411 yX12_bits, .static yX12_bits, .initialized RX12, .methodLink RX12 390 yX12_bit, .static yX12_bit, .fieldLink RX12 17 "HookPierModel" "v" "[I", .methodLink RX12 442 yX12_worthNow, .instanceMethod yX12_worthNow, .selects RX12 yX12_worthNow yX12_worthNow] (apW wsX120 (apW wsX110 (apW vfX12_bits (apW vfX12_bit (vfX12_worthNow))))))
theorem ifX12_loads_X12 : ∀ w ∈ wsX120, w ∈ vfX12_loads := fun _ h => (List.mem_cons_of_mem _ (List.mem_append_right _ (List.mem_append_left _ h)))
theorem ifX12_loads_X11 : ∀ w ∈ wsX110, w ∈ vfX12_loads := fun _ h => (List.mem_cons_of_mem _ (List.mem_append_right _ (List.mem_append_right _ (List.mem_append_left _ h))))
theorem qfX12_loads : Good vfX12_loads := gd_cons (by decide +kernel) (gd_app (gd_dec (by decide +kernel) : Good [.fieldLink RX12 436 "HookPierModel" "loaded" "I", .fieldLink RX12 439 "HookPierModel" "loadedWorth" "I", .fieldLink RX12 299 "HookPierModel" "pier" "LHookPierModel$Pier;", .methodLink RX12 411 yX12_bits, .static yX12_bits, .initialized RX12, .methodLink RX12 390 yX12_bit, .static yX12_bit, .fieldLink RX12 17 "HookPierModel" "v" "[I", .methodLink RX12 442 yX12_worthNow, .instanceMethod yX12_worthNow, .selects RX12 yX12_worthNow yX12_worthNow]) (gd_app qsX12 (gd_app qsX11 (gd_app qfX12_bits (gd_app qfX12_bit qfX12_worthNow)))))
theorem gfX12_loads_0 : GoodIn vfX12_loads (va_wsS RX12 411 yX12_bits vfX12_bits) := goodIn_app (goodIn_r [.methodLink RX12 411 yX12_bits, .static yX12_bits, .initialized RX12] [4, 5, 6] rfl (by decide +kernel)) (goodIn_m (fun _ h => (List.mem_cons_of_mem _ (List.mem_append_right _ (List.mem_append_right _ (List.mem_append_right _ (List.mem_append_left _ h)))))) qfX12_bits)
theorem gfX12_loads_1 : GoodIn vfX12_loads (va_wsS RX12 390 yX12_bit vfX12_bit) := goodIn_app (goodIn_r [.methodLink RX12 390 yX12_bit, .static yX12_bit, .initialized RX12] [7, 8, 6] rfl (by decide +kernel)) (goodIn_m (fun _ h => (List.mem_cons_of_mem _ (List.mem_append_right _ (List.mem_append_right _ (List.mem_append_right _ (List.mem_append_right _ (List.mem_append_left _ h))))))) qfX12_bit)
theorem gfX12_loads_2 : GoodIn vfX12_loads (wsV RX12 442 RX12 yX12_worthNow vfX12_worthNow) := goodIn_app (goodIn_r [.methodLink RX12 442 yX12_worthNow, .instanceMethod yX12_worthNow, .selects RX12 yX12_worthNow yX12_worthNow, .initialized RX12] [10, 11, 12, 6] rfl (by decide +kernel)) (goodIn_m (fun _ h => (List.mem_cons_of_mem _ (List.mem_append_right _ (List.mem_append_right _ (List.mem_append_right _ (List.mem_append_right _ (List.mem_append_right _ h))))))) qfX12_worthNow)
set_option maxHeartbeats 2000000 in
set_option maxRecDepth 100000 in
theorem kfX12_loads (l : Launch) (dC : Nat → ClassId) (dI : Nat → Nat → Nat) (a0 : Nat) (k1 : Int32) (a2 : Nat) (a3 : Nat) (uq : Nat → Nat) (kq : Nat → ClassId) (m_v : TX12_v) (m_k : TX12_k) (g8 : Value) (g9 : Value) (g10 : Value) (g11 : Value) (g12 : Value) (g13 : Value) (g14 : Value) (g15 : Value) (g16 : Value) (g17 : Value) (g18 : Value) (g19 : Value) (g20 : Value) (g21 : Value) (g22 : Value) (g23 : Value) (g24 : Value) (g25 : Value) (g26 : Value) (g27 : Value) (g28 : Value) (g29 : Value) (g30 : Value) (g31 : Value) (g32 : Value) (q_q : TX11_q) (cB34 : ClassId) (sz : Nat) (out : TX12_k) (h : f_X12_loads k1 m_v m_k q_q = some out) : KCv l yX12_loads vfX12_loads ({ frames := 2, cells := 0, slots := 0, locals := 45 }) (dC, dI) [.ref a0, .int k1] sz ((a0, .inr (9, [g8, g9, g10, .ref a2, g11, g12, g13, g14, g15, g16, g17, g18, g19, g20, g21, .ref a3, g22, g23, g24, g25, g26, g27, g28, g29, .int m_k.1, .int m_k.2.1, .int m_k.2.2, g30, g31, g32])) :: bX11 a2 uq kq q_q ([(a3, .inl (cB34, 26, .inl m_v))])) (tX11 kq ((cB34, .int) :: [])) (fun _ => True) ((a0, .inr (9, [g8, g9, g10, .ref a2, g11, g12, g13, g14, g15, g16, g17, g18, g19, g20, g21, .ref a3, g22, g23, g24, g25, g26, g27, g28, g29, .int out.1, .int out.2.1, .int out.2.2, g30, g31, g32])) :: bX11 a2 uq kq q_q ([(a3, .inl (cB34, 26, .inl m_v))])) 0 0 := by
  refine Met.ofW (cc := cX12_loads) (maxL := 6) (ret := none) (by decide) rfl ?_
  intro p e s m args below meth c s₁ B0 hml hv
  obtain ⟨rfl, hsz, hP, hK, hD0, hN⟩ := hv
  have hx := B0.exec
  have hb := B0.bytes
  have hr := B0.returns
  have hts := atoms_spec (ws := vfX12_loads) B0.pre
  have hown : s.vm.findClass RX12 = some m.cls := findClass_of_methodNamed B0.named
  have hlocks := B0.notSynchronized
  subst hsz
  have hD := hD0.self (sz := s.heap.size)
  generalize hAe : va_A ((a0, .inr (9, [g8, g9, g10, .ref a2, g11, g12, g13, g14, g15, g16, g17, g18, g19, g20, g21, .ref a3, g22, g23, g24, g25, g26, g27, g28, g29, .int m_k.1, .int m_k.2.1, .int m_k.2.2, g30, g31, g32])) :: bX11 a2 uq kq q_q ([(a3, .inl (cB34, 26, .inl m_v))])) s.heap.size = A at hD ⊢
  have hA : ∀ q : Nat, s.heap.size ≤ q → A q := fun q h => by rw [← hAe]; exact Or.inr h
  have hS : va_S A s.heap s.heap [] := va_S.rf
  have hP : va_P (dC, dI) vwCl ((a0, .inr (9, [g8, g9, g10, .ref a2, g11, g12, g13, g14, g15, g16, g17, g18, g19, g20, g21, .ref a3, g22, g23, g24, g25, g26, g27, g28, g29, .int m_k.1, .int m_k.2.1, .int m_k.2.2, g30, g31, g32])) :: bX11 a2 uq kq q_q ([(a3, .inl (cB34, 26, .inl m_v))])) s.heap := hP
  have hl := lv_entry ([.ref a0, .int k1]) (n := 6) (Nat.le_of_ble_eq_true rfl)
  rw [lg_entry_eq]
  generalize (lg_sl ([.ref a0, .int k1]) ++ List.replicate (6 - (lg_sl ([.ref a0, .int k1])).length) Slot.unset).toArray = ls at hl ⊢
  have hl : lv_has ls 6 [(0, .ref a0), (1, .int k1)] := hl
  refine W_q (fun QQ hQQ => ?_)
  rw [f_X12_loads] at h
  refine lv_aload_n hx hb (zat zrX12_loads_0_ok 0 rfl) rfl (lv_at hl 0 rfl) ?_
  refine lv_iconst (v := 0) hx hb (zat zrX12_loads_0_ok 1 rfl) (by decide) ?_
  refine va_put (D := (dC, dI)) (ci := 9) (v := .int 0) (ty := .int) (C := RX12) (T := TX12) (N := 30) hx hb hts ifX12_loads_X12 tyX12 tyX12_ok nmX12 hown hK hP hD hS 0 rfl rfl 25 (by decide) (hts (.fieldLink RX12 436 "HookPierModel" "loaded" "I") (List.mem_of_getElem? (i := 1) rfl)) (fun _ h9 => h9) rfl (by decide +kernel) rfl rfl (Nat.le_of_ble_eq_true rfl) (zat zrX12_loads_0_ok 2 rfl) (fun H locs hP hD hS => ?_)
  obtain ⟨hP, hD⟩ := pd_mk ((a0, .inr (9, [g8, g9, g10, .ref a2, g11, g12, g13, g14, g15, g16, g17, g18, g19, g20, g21, .ref a3, g22, g23, g24, g25, g26, g27, g28, g29, .int m_k.1, .int 0, .int m_k.2.2, g30, g31, g32])) :: bX11 a2 uq kq q_q ([(a3, .inl (cB34, 26, .inl m_v))])) hP hD
  refine lv_aload_n hx hb (zat zrX12_loads_0_ok 3 rfl) rfl (lv_at hl 0 rfl) ?_
  refine lv_iconst (v := 0) hx hb (zat zrX12_loads_0_ok 4 rfl) (by decide) ?_
  refine va_put (D := (dC, dI)) (ci := 9) (v := .int 0) (ty := .int) (C := RX12) (T := TX12) (N := 30) hx hb hts ifX12_loads_X12 tyX12 tyX12_ok nmX12 hown hK hP hD hS 0 rfl rfl 26 (by decide) (hts (.fieldLink RX12 439 "HookPierModel" "loadedWorth" "I") (List.mem_of_getElem? (i := 2) rfl)) (fun _ h9 => h9) rfl (by decide +kernel) rfl rfl (Nat.le_of_ble_eq_true rfl) (zat zrX12_loads_0_ok 5 rfl) (fun H locs hP hD hS => ?_)
  obtain ⟨hP, hD⟩ := pd_mk ((a0, .inr (9, [g8, g9, g10, .ref a2, g11, g12, g13, g14, g15, g16, g17, g18, g19, g20, g21, .ref a3, g22, g23, g24, g25, g26, g27, g28, g29, .int m_k.1, .int 0, .int 0, g30, g31, g32])) :: bX11 a2 uq kq q_q ([(a3, .inl (cB34, 26, .inl m_v))])) hP hD
  refine lv_iconst (v := 1) hx hb (zat zrX12_loads_0_ok 6 rfl) (by decide) ?_
  refine lv_istore_n (lv' := [(2, .int 1), (0, .ref a0), (1, .int k1)]) hx hb (zat zrX12_loads_0_ok 7 rfl) rfl hl (by decide) rfl (fun ls hl => ?_)
  have L12 : ∀ (n12 : Nat) (v12_l2 : Int32) (v12_m_k : TX12_k) (H : Heap) (locs : List Loc) (ls : Array Slot), f_X12_loads_L12 k1 m_v q_q n12 v12_l2 v12_m_k = some out → va_P (dC, dI) vwCl ((a0, .inr (9, [g8, g9, g10, .ref a2, g11, g12, g13, g14, g15, g16, g17, g18, g19, g20, g21, .ref a3, g22, g23, g24, g25, g26, g27, g28, g29, .int v12_m_k.1, .int v12_m_k.2.1, .int v12_m_k.2.2, g30, g31, g32])) :: bX11 a2 uq kq q_q ([(a3, .inl (cB34, 26, .inl m_v))])) H → va_D A ((a0, .inr (9, [g8, g9, g10, .ref a2, g11, g12, g13, g14, g15, g16, g17, g18, g19, g20, g21, .ref a3, g22, g23, g24, g25, g26, g27, g28, g29, .int v12_m_k.1, .int v12_m_k.2.1, .int v12_m_k.2.2, g30, g31, g32])) :: bX11 a2 uq kq q_q ([(a3, .inl (cB34, 26, .inl m_v))])) → va_S A s.heap H locs → lv_has ls 6 [(2, .int v12_l2), (0, .ref a0), (1, .int k1)] → W p l e (headSpec vfX12_loads { frames := 2, cells := 0, slots := 0, locals := 45 }).room s m ([.ref a0, .int k1]).toArray below meth c H locs 0 0 QQ (F0 m 12 ls []) := by
    intro n12
    induction n12 with
    | zero =>
      intro v12_l2 v12_m_k H locs ls h  _ _ _ _
      rw [f_X12_loads_L12] at h
      cases h
    | succ n12 ih12 =>
      intro v12_l2 v12_m_k H locs ls h  hP hD hS hl
      rw [f_X12_loads_L12] at h
      refine lv_iload_n hx hb (zat zrX12_loads_0_ok 8 rfl) rfl (lv_at hl 0 rfl) ?_
      refine lv_iconst (v := 1) hx hb (zat zrX12_loads_0_ok 9 rfl) (by decide) ?_
      refine lv_aload_n hx hb (zat zrX12_loads_0_ok 10 rfl) rfl (lv_at hl 1 rfl) ?_
      refine va_get (D := (dC, dI)) (ci := 9) (v := .ref a2) (C := RX12) (T := TX12) (N := 30) hx hb hts ifX12_loads_X12 hown hK hP 0 rfl rfl 3 (by decide) (hts (.fieldLink RX12 299 "HookPierModel" "pier" "LHookPierModel$Pier;") (List.mem_of_getElem? (i := 3) rfl)) (fun _ h9 => h9) rfl (zat zrX12_loads_0_ok 11 rfl) ?_
      refine va_getN (D := (dC, dI)) (ci := 8) (v := .int q_q.2.2.2.2.2.2.1) (C := RX11) (T := TX11) (N := 24) hx hb hts ifX12_loads_X11 hown hK hP 1 rfl rfl 6 (by decide) (va_Nw.use rfl (hN.1 (.fieldLinkNest RX12 231 "HookPierModel$Pier" "answers" "I" "HookPierModel") (List.mem_of_getElem? (i := 28) rfl))) (fun _ h9 => h9) rfl (zat zrX12_loads_0_ok 12 rfl) ?_
      refine lv_ishl hx hb (zat zrX12_loads_0_ok 13 rfl) ?_
      refine lv_icmp_ge (tgt := 172) hx hb (zat zrX12_loads_0_ok 14 rfl) (by decide) (fun c22 => ?_) (fun c22 => ?_)
      · have h := (if_pos c22).symm.trans h
        obtain rfl := Option.some.inj h
        obtain ⟨hP9, hD9⟩ := pd_sub ((a0, .inr (9, [g8, g9, g10, .ref a2, g11, g12, g13, g14, g15, g16, g17, g18, g19, g20, g21, .ref a3, g22, g23, g24, g25, g26, g27, g28, g29, .int v12_m_k.1, .int v12_m_k.2.1, .int v12_m_k.2.2, g30, g31, g32])) :: bX11 a2 uq kq q_q ([(a3, .inl (cB34, 26, .inl m_v))])) [0, 1, 2, 3, 4, 5, 6, 7, 8, 9, 10, 11, 12, 13, 14, 15, 16] hP hD (by decide) rfl
        have hK9 := hK.sub (tys' := []) [] rfl
        rw [hQQ]
        exact W.vret hx hb hr (fun t ht hW => ⟨⟨(), rfl, trivial, by rw [ht]; exact hP9, va_K.moved hW.alike hK9, hD9⟩, hS.F ht⟩) hS.2.2 (zat zrX12_loads_1_ok 24 rfl)
      · have h := (if_neg c22).symm.trans h
        refine lv_iconst (v := 0) hx hb (zat zrX12_loads_0_ok 15 rfl) (by decide) ?_
        refine lv_istore_n (lv' := [(3, .int 0), (2, .int v12_l2), (0, .ref a0), (1, .int k1)]) hx hb (zat zrX12_loads_0_ok 16 rfl) rfl hl (by decide) rfl (fun ls hl => ?_)
        refine lv_iload_n hx hb (zat zrX12_loads_0_ok 17 rfl) rfl (lv_at hl 1 rfl) ?_
        obtain ⟨o28, eo28, h⟩ := bd_of h
        refine ck_i (wc := []) (wr := ((a0, .inr (9, [g8, g9, g10, .ref a2, g11, g12, g13, g14, g15, g16, g17, g18, g19, g20, g21, .ref a3, g22, g23, g24, g25, g26, g27, g28, g29, .int v12_m_k.1, .int v12_m_k.2.1, .int v12_m_k.2.2, g30, g31, g32])) :: bX11 a2 uq kq q_q ([(a3, .inl (cB34, 26, .inl m_v))]))) hP hD hK hS hA [] [0, 1, 2, 3, 4, 5, 6, 7, 8, 9, 10, 11, 12, 13, 14, 15, 16] rfl rfl (by decide) (by decide) (by decide) (fun hPc hDc => (va_runS (As := [.int v12_l2]) (rest := []) ⟨hx, hb, hml, hown, hts⟩ (kfX12_bits l dC dI v12_l2 H.size o28 eo28) (va_cwS 1 hts gfX12_loads_0 rfl rfl rfl (by decide +kernel) ⟨(Nat.le_of_ble_eq_true rfl), (Nat.le_of_ble_eq_true rfl)⟩) (PS hPc (hK.sub (tys' := ([])) [] rfl) hDc hN) rfl rfl hl.1 rfl (lv_room (Nat.le_of_ble_eq_true rfl)) (zat zrX12_loads_0_ok 18 rfl) ⟨(Nat.le_of_ble_eq_true rfl), (Nat.le_of_ble_eq_true rfl)⟩)) (fun r28 _ H locs hw hP hD _ hS => ?_)
        obtain rfl := hw.symm
        obtain ⟨hP, hD⟩ := pd_mk ((a0, .inr (9, [g8, g9, g10, .ref a2, g11, g12, g13, g14, g15, g16, g17, g18, g19, g20, g21, .ref a3, g22, g23, g24, g25, g26, g27, g28, g29, .int v12_m_k.1, .int v12_m_k.2.1, .int v12_m_k.2.2, g30, g31, g32])) :: bX11 a2 uq kq q_q ([(a3, .inl (cB34, 26, .inl m_v))])) hP hD
        refine lv_iload_n hx hb (zat zrX12_loads_0_ok 19 rfl) rfl (lv_at hl 3 rfl) ?_
        have J40 : ∀ (v40_t0 : Int32) (H : Heap) (locs : List Loc) (ls : Array Slot), f_X12_loads_J40 m_v q_q (f_X12_loads_L12 k1 m_v q_q n12) v12_l2 v12_m_k v40_t0 = some out → 0 ≤ v40_t0.toInt ∧ v40_t0.toInt ≤ 1 → va_P (dC, dI) vwCl ((a0, .inr (9, [g8, g9, g10, .ref a2, g11, g12, g13, g14, g15, g16, g17, g18, g19, g20, g21, .ref a3, g22, g23, g24, g25, g26, g27, g28, g29, .int v12_m_k.1, .int v12_m_k.2.1, .int v12_m_k.2.2, g30, g31, g32])) :: bX11 a2 uq kq q_q ([(a3, .inl (cB34, 26, .inl m_v))])) H → va_D A ((a0, .inr (9, [g8, g9, g10, .ref a2, g11, g12, g13, g14, g15, g16, g17, g18, g19, g20, g21, .ref a3, g22, g23, g24, g25, g26, g27, g28, g29, .int v12_m_k.1, .int v12_m_k.2.1, .int v12_m_k.2.2, g30, g31, g32])) :: bX11 a2 uq kq q_q ([(a3, .inl (cB34, 26, .inl m_v))])) → va_S A s.heap H locs → lv_has ls 6 [(3, .int 0), (2, .int v12_l2), (0, .ref a0), (1, .int k1)] → W p l e (headSpec vfX12_loads { frames := 2, cells := 0, slots := 0, locals := 45 }).room s m ([.ref a0, .int k1]).toArray below meth c H locs 0 0 QQ (F0 m 40 ls [.int v40_t0]) := by
          intro v40_t0 H locs ls h zb_v40_t0 hP hD hS hl
          rw [f_X12_loads_J40] at h
          refine lv_istore (lv' := [(4, .int v40_t0), (3, .int 0), (2, .int v12_l2), (0, .ref a0), (1, .int k1)]) hx hb (zat zrX12_loads_0_ok 24 rfl) hl (by decide) rfl (fun ls hl => ?_)
          refine lv_iconst (v := 0) hx hb (zat zrX12_loads_0_ok 25 rfl) (by decide) ?_
          refine lv_istore (lv' := [(5, .int 0), (4, .int v40_t0), (3, .int 0), (2, .int v12_l2), (0, .ref a0), (1, .int k1)]) hx hb (zat zrX12_loads_0_ok 26 rfl) hl (by decide) rfl (fun ls hl => ?_)
          have L45 : ∀ (n45 : Nat) (v45_l5 : Int32) (v45_l4 : Int32) (v45_l3 : Int32) (H : Heap) (locs : List Loc) (ls : Array Slot), f_X12_loads_L45 m_v q_q (f_X12_loads_L12 k1 m_v q_q n12) v12_l2 v12_m_k n45 v45_l5 v45_l4 v45_l3 = some out → 0 ≤ v45_l4.toInt ∧ v45_l4.toInt ≤ 1 → va_P (dC, dI) vwCl ((a0, .inr (9, [g8, g9, g10, .ref a2, g11, g12, g13, g14, g15, g16, g17, g18, g19, g20, g21, .ref a3, g22, g23, g24, g25, g26, g27, g28, g29, .int v12_m_k.1, .int v12_m_k.2.1, .int v12_m_k.2.2, g30, g31, g32])) :: bX11 a2 uq kq q_q ([(a3, .inl (cB34, 26, .inl m_v))])) H → va_D A ((a0, .inr (9, [g8, g9, g10, .ref a2, g11, g12, g13, g14, g15, g16, g17, g18, g19, g20, g21, .ref a3, g22, g23, g24, g25, g26, g27, g28, g29, .int v12_m_k.1, .int v12_m_k.2.1, .int v12_m_k.2.2, g30, g31, g32])) :: bX11 a2 uq kq q_q ([(a3, .inl (cB34, 26, .inl m_v))])) → va_S A s.heap H locs → lv_has ls 6 [(5, .int v45_l5), (4, .int v45_l4), (3, .int v45_l3), (2, .int v12_l2), (0, .ref a0), (1, .int k1)] → W p l e (headSpec vfX12_loads { frames := 2, cells := 0, slots := 0, locals := 45 }).room s m ([.ref a0, .int k1]).toArray below meth c H locs 0 0 QQ (F0 m 45 ls []) := by
            intro n45
            induction n45 with
            | zero =>
              intro v45_l5 v45_l4 v45_l3 H locs ls h _ _ _ _ _
              rw [f_X12_loads_L45] at h
              cases h
            | succ n45 ih45 =>
              intro v45_l5 v45_l4 v45_l3 H locs ls h zb_v45_l4 hP hD hS hl
              rw [f_X12_loads_L45] at h
              refine lv_iload hx hb (zat zrX12_loads_0_ok 27 rfl) (lv_at hl 0 rfl) ?_
              refine lv_aload_n hx hb (zat zrX12_loads_0_ok 28 rfl) rfl (lv_at hl 4 rfl) ?_
              refine va_get (D := (dC, dI)) (ci := 9) (v := .ref a2) (C := RX12) (T := TX12) (N := 30) hx hb hts ifX12_loads_X12 hown hK hP 0 rfl rfl 3 (by decide) (hts (.fieldLink RX12 299 "HookPierModel" "pier" "LHookPierModel$Pier;") (List.mem_of_getElem? (i := 3) rfl)) (fun _ h9 => h9) rfl (zat zrX12_loads_0_ok 29 rfl) ?_
              refine va_getN (D := (dC, dI)) (ci := 8) (v := .int q_q.2.2.2.2.2.2.1) (C := RX11) (T := TX11) (N := 24) hx hb hts ifX12_loads_X11 hown hK hP 1 rfl rfl 6 (by decide) (va_Nw.use rfl (hN.1 (.fieldLinkNest RX12 231 "HookPierModel$Pier" "answers" "I" "HookPierModel") (List.mem_of_getElem? (i := 28) rfl))) (fun _ h9 => h9) rfl (zat zrX12_loads_0_ok 30 rfl) ?_
              have J118 : ∀ (H : Heap) (locs : List Loc) (ls : Array Slot), f_X12_loads_J118 (f_X12_loads_L12 k1 m_v q_q n12) v12_l2 v12_m_k v45_l3 v45_l4 = some out → va_P (dC, dI) vwCl ((a0, .inr (9, [g8, g9, g10, .ref a2, g11, g12, g13, g14, g15, g16, g17, g18, g19, g20, g21, .ref a3, g22, g23, g24, g25, g26, g27, g28, g29, .int v12_m_k.1, .int v12_m_k.2.1, .int v12_m_k.2.2, g30, g31, g32])) :: bX11 a2 uq kq q_q ([(a3, .inl (cB34, 26, .inl m_v))])) H → va_D A ((a0, .inr (9, [g8, g9, g10, .ref a2, g11, g12, g13, g14, g15, g16, g17, g18, g19, g20, g21, .ref a3, g22, g23, g24, g25, g26, g27, g28, g29, .int v12_m_k.1, .int v12_m_k.2.1, .int v12_m_k.2.2, g30, g31, g32])) :: bX11 a2 uq kq q_q ([(a3, .inl (cB34, 26, .inl m_v))])) → va_S A s.heap H locs → lv_has ls 6 [(4, .int v45_l4), (3, .int v45_l3), (2, .int v12_l2), (0, .ref a0), (1, .int k1)] → W p l e (headSpec vfX12_loads { frames := 2, cells := 0, slots := 0, locals := 45 }).room s m ([.ref a0, .int k1]).toArray below meth c H locs 0 0 QQ (F0 m 118 ls []) := by
                intro  H locs ls h  hP hD hS hl
                rw [f_X12_loads_J118] at h
                refine lv_iload hx hb (zat zrX12_loads_0_ok 63 rfl) (lv_at hl 0 rfl) ?_
                have J166 : ∀ (v166_m_k : TX12_k) (H : Heap) (locs : List Loc) (ls : Array Slot), f_X12_loads_J166 (f_X12_loads_L12 k1 m_v q_q n12) v12_l2 v166_m_k = some out → va_P (dC, dI) vwCl ((a0, .inr (9, [g8, g9, g10, .ref a2, g11, g12, g13, g14, g15, g16, g17, g18, g19, g20, g21, .ref a3, g22, g23, g24, g25, g26, g27, g28, g29, .int v166_m_k.1, .int v166_m_k.2.1, .int v166_m_k.2.2, g30, g31, g32])) :: bX11 a2 uq kq q_q ([(a3, .inl (cB34, 26, .inl m_v))])) H → va_D A ((a0, .inr (9, [g8, g9, g10, .ref a2, g11, g12, g13, g14, g15, g16, g17, g18, g19, g20, g21, .ref a3, g22, g23, g24, g25, g26, g27, g28, g29, .int v166_m_k.1, .int v166_m_k.2.1, .int v166_m_k.2.2, g30, g31, g32])) :: bX11 a2 uq kq q_q ([(a3, .inl (cB34, 26, .inl m_v))])) → va_S A s.heap H locs → lv_has ls 6 [(2, .int v12_l2), (0, .ref a0), (1, .int k1)] → W p l e (headSpec vfX12_loads { frames := 2, cells := 0, slots := 0, locals := 45 }).room s m ([.ref a0, .int k1]).toArray below meth c H locs 0 0 QQ (F0 m 166 ls []) := by
                  intro v166_m_k H locs ls h  hP hD hS hl
                  rw [f_X12_loads_J166] at h
                  refine lv_iinc (v := (v12_l2 + (1 : Int32))) (lv' := [(2, .int (v12_l2 + (1 : Int32))), (0, .ref a0), (1, .int k1)]) hx hb (zat zrX12_loads_1_ok 22 rfl) hl (k := 0) rfl rfl (by decide) rfl (fun ls hl => ?_)
                  refine lv_goto (tgt := 12) hx hb (zat zrX12_loads_1_ok 23 rfl) (by decide) ?_
                  exact ih12 (v12_l2 + (1 : Int32)) v166_m_k H _ ls h  hP hD hS (lv_sub hl [0, 1, 2] rfl)
                refine lv_if_eq (tgt := 166) hx hb (zat zrX12_loads_1_ok 0 rfl) (by decide) (fun c120 => ?_) (fun c120 => ?_)
                · have h := (if_pos c120).symm.trans h
                  exact J166 v12_m_k H _ ls h  hP hD hS (lv_sub hl [2, 3, 4] rfl)
                · have h := (if_neg c120).symm.trans h
                  refine lv_iload_n hx hb (zat zrX12_loads_1_ok 1 rfl) rfl (lv_at hl 1 rfl) ?_
                  refine lv_aload_n hx hb (zat zrX12_loads_1_ok 2 rfl) rfl (lv_at hl 3 rfl) ?_
                  refine va_get (D := (dC, dI)) (ci := 9) (v := .int v12_m_k.2.2) (C := RX12) (T := TX12) (N := 30) hx hb hts ifX12_loads_X12 hown hK hP 0 rfl rfl 26 (by decide) (hts (.fieldLink RX12 439 "HookPierModel" "loadedWorth" "I") (List.mem_of_getElem? (i := 2) rfl)) (fun _ h9 => h9) rfl (zat zrX12_loads_1_ok 3 rfl) ?_
                  refine lv_icmp_lt (tgt := 166) hx hb (zat zrX12_loads_1_ok 4 rfl) (by decide) (fun c128 => ?_) (fun c128 => ?_)
                  · have h := (if_pos c128).symm.trans h
                    exact J166 v12_m_k H _ ls h  hP hD hS (lv_sub hl [2, 3, 4] rfl)
                  · have h := (if_neg c128).symm.trans h
                    refine lv_iload_n hx hb (zat zrX12_loads_1_ok 5 rfl) rfl (lv_at hl 1 rfl) ?_
                    refine lv_aload_n hx hb (zat zrX12_loads_1_ok 6 rfl) rfl (lv_at hl 3 rfl) ?_
                    refine va_get (D := (dC, dI)) (ci := 9) (v := .int v12_m_k.2.2) (C := RX12) (T := TX12) (N := 30) hx hb hts ifX12_loads_X12 hown hK hP 0 rfl rfl 26 (by decide) (hts (.fieldLink RX12 439 "HookPierModel" "loadedWorth" "I") (List.mem_of_getElem? (i := 2) rfl)) (fun _ h9 => h9) rfl (zat zrX12_loads_1_ok 7 rfl) ?_
                    have J156 : ∀ (H : Heap) (locs : List Loc) (ls : Array Slot), f_X12_loads_J156 (f_X12_loads_L12 k1 m_v q_q n12) v12_l2 v12_m_k v45_l3 = some out → va_P (dC, dI) vwCl ((a0, .inr (9, [g8, g9, g10, .ref a2, g11, g12, g13, g14, g15, g16, g17, g18, g19, g20, g21, .ref a3, g22, g23, g24, g25, g26, g27, g28, g29, .int v12_m_k.1, .int v12_m_k.2.1, .int v12_m_k.2.2, g30, g31, g32])) :: bX11 a2 uq kq q_q ([(a3, .inl (cB34, 26, .inl m_v))])) H → va_D A ((a0, .inr (9, [g8, g9, g10, .ref a2, g11, g12, g13, g14, g15, g16, g17, g18, g19, g20, g21, .ref a3, g22, g23, g24, g25, g26, g27, g28, g29, .int v12_m_k.1, .int v12_m_k.2.1, .int v12_m_k.2.2, g30, g31, g32])) :: bX11 a2 uq kq q_q ([(a3, .inl (cB34, 26, .inl m_v))])) → va_S A s.heap H locs → lv_has ls 6 [(3, .int v45_l3), (2, .int v12_l2), (0, .ref a0), (1, .int k1)] → W p l e (headSpec vfX12_loads { frames := 2, cells := 0, slots := 0, locals := 45 }).room s m ([.ref a0, .int k1]).toArray below meth c H locs 0 0 QQ (F0 m 156 ls []) := by
                      intro  H locs ls h  hP hD hS hl
                      rw [f_X12_loads_J156] at h
                      refine lv_aload_n hx hb (zat zrX12_loads_1_ok 16 rfl) rfl (lv_at hl 2 rfl) ?_
                      refine lv_iload_n hx hb (zat zrX12_loads_1_ok 17 rfl) rfl (lv_at hl 1 rfl) ?_
                      refine va_put (D := (dC, dI)) (ci := 9) (v := .int v12_l2) (ty := .int) (C := RX12) (T := TX12) (N := 30) hx hb hts ifX12_loads_X12 tyX12 tyX12_ok nmX12 hown hK hP hD hS 0 rfl rfl 25 (by decide) (hts (.fieldLink RX12 436 "HookPierModel" "loaded" "I") (List.mem_of_getElem? (i := 1) rfl)) (fun _ h9 => h9) rfl (by decide +kernel) rfl rfl (Nat.le_of_ble_eq_true rfl) (zat zrX12_loads_1_ok 18 rfl) (fun H locs hP hD hS => ?_)
                      obtain ⟨hP, hD⟩ := pd_mk ((a0, .inr (9, [g8, g9, g10, .ref a2, g11, g12, g13, g14, g15, g16, g17, g18, g19, g20, g21, .ref a3, g22, g23, g24, g25, g26, g27, g28, g29, .int v12_m_k.1, .int v12_l2, .int v12_m_k.2.2, g30, g31, g32])) :: bX11 a2 uq kq q_q ([(a3, .inl (cB34, 26, .inl m_v))])) hP hD
                      refine lv_aload_n hx hb (zat zrX12_loads_1_ok 19 rfl) rfl (lv_at hl 2 rfl) ?_
                      refine lv_iload_n hx hb (zat zrX12_loads_1_ok 20 rfl) rfl (lv_at hl 0 rfl) ?_
                      refine va_put (D := (dC, dI)) (ci := 9) (v := .int v45_l3) (ty := .int) (C := RX12) (T := TX12) (N := 30) hx hb hts ifX12_loads_X12 tyX12 tyX12_ok nmX12 hown hK hP hD hS 0 rfl rfl 26 (by decide) (hts (.fieldLink RX12 439 "HookPierModel" "loadedWorth" "I") (List.mem_of_getElem? (i := 2) rfl)) (fun _ h9 => h9) rfl (by decide +kernel) rfl rfl (Nat.le_of_ble_eq_true rfl) (zat zrX12_loads_1_ok 21 rfl) (fun H locs hP hD hS => ?_)
                      obtain ⟨hP, hD⟩ := pd_mk ((a0, .inr (9, [g8, g9, g10, .ref a2, g11, g12, g13, g14, g15, g16, g17, g18, g19, g20, g21, .ref a3, g22, g23, g24, g25, g26, g27, g28, g29, .int v12_m_k.1, .int v12_l2, .int v45_l3, g30, g31, g32])) :: bX11 a2 uq kq q_q ([(a3, .inl (cB34, 26, .inl m_v))])) hP hD
                      exact J166 (v12_m_k.1, v12_l2, v45_l3) H _ ls h  hP hD hS (lv_sub hl [1, 2, 3] rfl)
                    refine lv_icmp_ne (tgt := 156) hx hb (zat zrX12_loads_1_ok 8 rfl) (by decide) (fun c136 => ?_) (fun c136 => ?_)
                    · have h := (if_neg c136).symm.trans h
                      exact J156  H _ ls h  hP hD hS (lv_sub hl [1, 2, 3, 4] rfl)
                    · have h := (if_pos c136).symm.trans h
                      refine lv_iload_n hx hb (zat zrX12_loads_1_ok 9 rfl) rfl (lv_at hl 2 rfl) ?_
                      obtain ⟨o140, eo140, h⟩ := bd_of h
                      refine ck_i (wc := []) (wr := ((a0, .inr (9, [g8, g9, g10, .ref a2, g11, g12, g13, g14, g15, g16, g17, g18, g19, g20, g21, .ref a3, g22, g23, g24, g25, g26, g27, g28, g29, .int v12_m_k.1, .int v12_m_k.2.1, .int v12_m_k.2.2, g30, g31, g32])) :: bX11 a2 uq kq q_q ([(a3, .inl (cB34, 26, .inl m_v))]))) hP hD hK hS hA [] [0, 1, 2, 3, 4, 5, 6, 7, 8, 9, 10, 11, 12, 13, 14, 15, 16] rfl rfl (by decide) (by decide) (by decide) (fun hPc hDc => (va_runS (As := [.int v12_l2]) (rest := []) ⟨hx, hb, hml, hown, hts⟩ (kfX12_bits l dC dI v12_l2 H.size o140 eo140) (va_cwS 1 hts gfX12_loads_0 rfl rfl rfl (by decide +kernel) ⟨(Nat.le_of_ble_eq_true rfl), (Nat.le_of_ble_eq_true rfl)⟩) (PS hPc (hK.sub (tys' := ([])) [] rfl) hDc hN) rfl rfl hl.1 rfl (lv_room (Nat.le_of_ble_eq_true rfl)) (zat zrX12_loads_1_ok 10 rfl) ⟨(Nat.le_of_ble_eq_true rfl), (Nat.le_of_ble_eq_true rfl)⟩)) (fun r140 _ H locs hw hP hD _ hS => ?_)
                      obtain rfl := hw.symm
                      obtain ⟨hP, hD⟩ := pd_mk ((a0, .inr (9, [g8, g9, g10, .ref a2, g11, g12, g13, g14, g15, g16, g17, g18, g19, g20, g21, .ref a3, g22, g23, g24, g25, g26, g27, g28, g29, .int v12_m_k.1, .int v12_m_k.2.1, .int v12_m_k.2.2, g30, g31, g32])) :: bX11 a2 uq kq q_q ([(a3, .inl (cB34, 26, .inl m_v))])) hP hD
                      refine lv_aload_n hx hb (zat zrX12_loads_1_ok 11 rfl) rfl (lv_at hl 3 rfl) ?_
                      refine va_get (D := (dC, dI)) (ci := 9) (v := .int v12_m_k.2.1) (C := RX12) (T := TX12) (N := 30) hx hb hts ifX12_loads_X12 hown hK hP 0 rfl rfl 25 (by decide) (hts (.fieldLink RX12 436 "HookPierModel" "loaded" "I") (List.mem_of_getElem? (i := 1) rfl)) (fun _ h9 => h9) rfl (zat zrX12_loads_1_ok 12 rfl) ?_
                      obtain ⟨o147, eo147, h⟩ := bd_of h
                      refine ck_i (wc := []) (wr := ((a0, .inr (9, [g8, g9, g10, .ref a2, g11, g12, g13, g14, g15, g16, g17, g18, g19, g20, g21, .ref a3, g22, g23, g24, g25, g26, g27, g28, g29, .int v12_m_k.1, .int v12_m_k.2.1, .int v12_m_k.2.2, g30, g31, g32])) :: bX11 a2 uq kq q_q ([(a3, .inl (cB34, 26, .inl m_v))]))) hP hD hK hS hA [] [0, 1, 2, 3, 4, 5, 6, 7, 8, 9, 10, 11, 12, 13, 14, 15, 16] rfl rfl (by decide) (by decide) (by decide) (fun hPc hDc => (va_runS (As := [.int v12_m_k.2.1]) (rest := [.int o140]) ⟨hx, hb, hml, hown, hts⟩ (kfX12_bits l dC dI v12_m_k.2.1 H.size o147 eo147) (va_cwS 1 hts gfX12_loads_0 rfl rfl rfl (by decide +kernel) ⟨(Nat.le_of_ble_eq_true rfl), (Nat.le_of_ble_eq_true rfl)⟩) (PS hPc (hK.sub (tys' := ([])) [] rfl) hDc hN) rfl rfl hl.1 rfl (lv_room (Nat.le_of_ble_eq_true rfl)) (zat zrX12_loads_1_ok 13 rfl) ⟨(Nat.le_of_ble_eq_true rfl), (Nat.le_of_ble_eq_true rfl)⟩)) (fun r147 _ H locs hw hP hD _ hS => ?_)
                      obtain rfl := hw.symm
                      obtain ⟨hP, hD⟩ := pd_mk ((a0, .inr (9, [g8, g9, g10, .ref a2, g11, g12, g13, g14, g15, g16, g17, g18, g19, g20, g21, .ref a3, g22, g23, g24, g25, g26, g27, g28, g29, .int v12_m_k.1, .int v12_m_k.2.1, .int v12_m_k.2.2, g30, g31, g32])) :: bX11 a2 uq kq q_q ([(a3, .inl (cB34, 26, .inl m_v))])) hP hD
                      refine lv_icmp_lt (tgt := 156) hx hb (zat zrX12_loads_1_ok 14 rfl) (by decide) (fun c150 => ?_) (fun c150 => ?_)
                      · have h := (if_pos c150).symm.trans h
                        exact J156  H _ ls h  hP hD hS (lv_sub hl [1, 2, 3, 4] rfl)
                      · have h := (if_neg c150).symm.trans h
                        refine lv_goto (tgt := 166) hx hb (zat zrX12_loads_1_ok 15 rfl) (by decide) ?_
                        exact J166 v12_m_k H _ ls h  hP hD hS (lv_sub hl [2, 3, 4] rfl)
              refine lv_icmp_ge (tgt := 118) hx hb (zat zrX12_loads_0_ok 31 rfl) (by decide) (fun c54 => ?_) (fun c54 => ?_)
              · have h := (if_pos c54).symm.trans h
                exact J118  H _ ls h  hP hD hS (lv_sub hl [1, 2, 3, 4, 5] rfl)
              · have h := (if_neg c54).symm.trans h
                refine lv_iload hx hb (zat zrX12_loads_0_ok 32 rfl) (lv_at hl 1 rfl) ?_
                refine lv_if_eq (tgt := 118) hx hb (zat zrX12_loads_0_ok 33 rfl) (by decide) (fun c59 => ?_) (fun c59 => ?_)
                · have h := (if_pos c59).symm.trans h
                  exact J118  H _ ls h  hP hD hS (lv_sub hl [1, 2, 3, 4, 5] rfl)
                · have h := (if_neg c59).symm.trans h
                  refine lv_iload_n hx hb (zat zrX12_loads_0_ok 34 rfl) rfl (lv_at hl 3 rfl) ?_
                  refine lv_iload hx hb (zat zrX12_loads_0_ok 35 rfl) (lv_at hl 0 rfl) ?_
                  obtain ⟨o65, eo65⟩ : ∃ o, o = f_X12_bit v12_l2 v45_l5 := ⟨_, rfl⟩
                  have h := nm_of h o65 eo65
                  refine ck_i (wc := []) (wr := ((a0, .inr (9, [g8, g9, g10, .ref a2, g11, g12, g13, g14, g15, g16, g17, g18, g19, g20, g21, .ref a3, g22, g23, g24, g25, g26, g27, g28, g29, .int v12_m_k.1, .int v12_m_k.2.1, .int v12_m_k.2.2, g30, g31, g32])) :: bX11 a2 uq kq q_q ([(a3, .inl (cB34, 26, .inl m_v))]))) hP hD hK hS hA [] [0, 1, 2, 3, 4, 5, 6, 7, 8, 9, 10, 11, 12, 13, 14, 15, 16] rfl rfl (by decide) (by decide) (by decide) (fun hPc hDc => (va_runS (As := [.int v12_l2, .int v45_l5]) (rest := []) ⟨hx, hb, hml, hown, hts⟩ (kfX12_bit l dC dI v12_l2 v45_l5 H.size o65 eo65.symm) (va_cwS 2 hts gfX12_loads_1 rfl rfl rfl (by decide +kernel) ⟨(Nat.le_of_ble_eq_true rfl), (Nat.le_of_ble_eq_true rfl)⟩) (PS hPc (hK.sub (tys' := ([])) [] rfl) hDc hN) rfl rfl hl.1 rfl (lv_room (Nat.le_of_ble_eq_true rfl)) (zat zrX12_loads_0_ok 36 rfl) ⟨(Nat.le_of_ble_eq_true rfl), (Nat.le_of_ble_eq_true rfl)⟩)) (fun r65 _ H locs hw hP hD _ hS => ?_)
                  obtain ⟨hw, br65⟩ := hw
                  obtain rfl := hw.symm
                  obtain ⟨hP, hD⟩ := pd_mk ((a0, .inr (9, [g8, g9, g10, .ref a2, g11, g12, g13, g14, g15, g16, g17, g18, g19, g20, g21, .ref a3, g22, g23, g24, g25, g26, g27, g28, g29, .int v12_m_k.1, .int v12_m_k.2.1, .int v12_m_k.2.2, g30, g31, g32])) :: bX11 a2 uq kq q_q ([(a3, .inl (cB34, 26, .inl m_v))])) hP hD
                  have J112 : ∀ (v112_l4 : Int32) (v112_l3 : Int32) (H : Heap) (locs : List Loc) (ls : Array Slot), f_X12_loads_J112 (f_X12_loads_L45 m_v q_q (f_X12_loads_L12 k1 m_v q_q n12) v12_l2 v12_m_k n45) v45_l5 v112_l4 v112_l3 = some out → 0 ≤ v112_l4.toInt ∧ v112_l4.toInt ≤ 1 → va_P (dC, dI) vwCl ((a0, .inr (9, [g8, g9, g10, .ref a2, g11, g12, g13, g14, g15, g16, g17, g18, g19, g20, g21, .ref a3, g22, g23, g24, g25, g26, g27, g28, g29, .int v12_m_k.1, .int v12_m_k.2.1, .int v12_m_k.2.2, g30, g31, g32])) :: bX11 a2 uq kq q_q ([(a3, .inl (cB34, 26, .inl m_v))])) H → va_D A ((a0, .inr (9, [g8, g9, g10, .ref a2, g11, g12, g13, g14, g15, g16, g17, g18, g19, g20, g21, .ref a3, g22, g23, g24, g25, g26, g27, g28, g29, .int v12_m_k.1, .int v12_m_k.2.1, .int v12_m_k.2.2, g30, g31, g32])) :: bX11 a2 uq kq q_q ([(a3, .inl (cB34, 26, .inl m_v))])) → va_S A s.heap H locs → lv_has ls 6 [(5, .int v45_l5), (4, .int v112_l4), (3, .int v112_l3), (2, .int v12_l2), (0, .ref a0), (1, .int k1)] → W p l e (headSpec vfX12_loads { frames := 2, cells := 0, slots := 0, locals := 45 }).room s m ([.ref a0, .int k1]).toArray below meth c H locs 0 0 QQ (F0 m 112 ls []) := by
                    intro v112_l4 v112_l3 H locs ls h zb_v112_l4 hP hD hS hl
                    rw [f_X12_loads_J112] at h
                    refine lv_iinc (v := (v45_l5 + (1 : Int32))) (lv' := [(5, .int (v45_l5 + (1 : Int32))), (4, .int v112_l4), (3, .int v112_l3), (2, .int v12_l2), (0, .ref a0), (1, .int k1)]) hx hb (zat zrX12_loads_0_ok 61 rfl) hl (k := 0) rfl rfl (by decide) rfl (fun ls hl => ?_)
                    refine lv_goto (tgt := 45) hx hb (zat zrX12_loads_0_ok 62 rfl) (by decide) ?_
                    exact ih45 (v45_l5 + (1 : Int32)) v112_l4 v112_l3 H _ ls h zb_v112_l4 hP hD hS (lv_sub hl [0, 1, 2, 3, 4, 5] rfl)
                  refine lv_if_ne (tgt := 74) hx hb (zat zrX12_loads_0_ok 37 rfl) (by decide) (fun c68 => ?_) (fun c68 => ?_)
                  · have h := (if_neg c68).symm.trans h
                    refine lv_aload_n hx hb (zat zrX12_loads_0_ok 39 rfl) rfl (lv_at hl 4 rfl) ?_
                    refine va_get (D := (dC, dI)) (ci := 9) (v := .ref a3) (C := RX12) (T := TX12) (N := 30) hx hb hts ifX12_loads_X12 hown hK hP 0 rfl rfl 15 (by decide) (hts (.fieldLink RX12 17 "HookPierModel" "v" "[I") (List.mem_of_getElem? (i := 9) rfl)) (fun _ h9 => h9) rfl (zat zrX12_loads_0_ok 40 rfl) ?_
                    refine lv_iconst (v := 0) hx hb (zat zrX12_loads_0_ok 41 rfl) (by decide) ?_
                    refine lv_iload hx hb (zat zrX12_loads_0_ok 42 rfl) (lv_at hl 0 rfl) ?_
                    refine lv_iadd hx hb (zat zrX12_loads_0_ok 43 rfl) ?_
                    obtain ⟨hg82, h⟩ := gA_of h
                    refine va_iald hx hb hK hP 16 14 rfl rfl hg82 (zat zrX12_loads_0_ok 44 rfl) ?_
                    refine lv_iconst (v := 1) hx hb (zat zrX12_loads_0_ok 45 rfl) (by decide) ?_
                    have J92 : ∀ (v92_t0 : Int32) (H : Heap) (locs : List Loc) (ls : Array Slot), f_X12_loads_J92 m_v q_q (f_X12_loads_L45 m_v q_q (f_X12_loads_L12 k1 m_v q_q n12) v12_l2 v12_m_k n45) v45_l3 v45_l5 v92_t0 = some out → 0 ≤ v92_t0.toInt ∧ v92_t0.toInt ≤ 1 → va_P (dC, dI) vwCl ((a0, .inr (9, [g8, g9, g10, .ref a2, g11, g12, g13, g14, g15, g16, g17, g18, g19, g20, g21, .ref a3, g22, g23, g24, g25, g26, g27, g28, g29, .int v12_m_k.1, .int v12_m_k.2.1, .int v12_m_k.2.2, g30, g31, g32])) :: bX11 a2 uq kq q_q ([(a3, .inl (cB34, 26, .inl m_v))])) H → va_D A ((a0, .inr (9, [g8, g9, g10, .ref a2, g11, g12, g13, g14, g15, g16, g17, g18, g19, g20, g21, .ref a3, g22, g23, g24, g25, g26, g27, g28, g29, .int v12_m_k.1, .int v12_m_k.2.1, .int v12_m_k.2.2, g30, g31, g32])) :: bX11 a2 uq kq q_q ([(a3, .inl (cB34, 26, .inl m_v))])) → va_S A s.heap H locs → lv_has ls 6 [(5, .int v45_l5), (3, .int v45_l3), (2, .int v12_l2), (0, .ref a0), (1, .int k1)] → W p l e (headSpec vfX12_loads { frames := 2, cells := 0, slots := 0, locals := 45 }).room s m ([.ref a0, .int k1]).toArray below meth c H locs 0 0 QQ (F0 m 92 ls [.int v92_t0]) := by
                      intro v92_t0 H locs ls h zb_v92_t0 hP hD hS hl
                      rw [f_X12_loads_J92] at h
                      refine lv_istore (lv' := [(4, .int v92_t0), (5, .int v45_l5), (3, .int v45_l3), (2, .int v12_l2), (0, .ref a0), (1, .int k1)]) hx hb (zat zrX12_loads_0_ok 50 rfl) hl (by decide) rfl (fun ls hl => ?_)
                      refine lv_iload_n hx hb (zat zrX12_loads_0_ok 51 rfl) rfl (lv_at hl 2 rfl) ?_
                      refine lv_iload hx hb (zat zrX12_loads_0_ok 52 rfl) (lv_at hl 0 rfl) ?_
                      have J110 : ∀ (v110_t1 : Int32) (H : Heap) (locs : List Loc) (ls : Array Slot), f_X12_loads_J110 (f_X12_loads_L45 m_v q_q (f_X12_loads_L12 k1 m_v q_q n12) v12_l2 v12_m_k n45) v45_l3 v45_l5 v92_t0 v110_t1 = some out → va_P (dC, dI) vwCl ((a0, .inr (9, [g8, g9, g10, .ref a2, g11, g12, g13, g14, g15, g16, g17, g18, g19, g20, g21, .ref a3, g22, g23, g24, g25, g26, g27, g28, g29, .int v12_m_k.1, .int v12_m_k.2.1, .int v12_m_k.2.2, g30, g31, g32])) :: bX11 a2 uq kq q_q ([(a3, .inl (cB34, 26, .inl m_v))])) H → va_D A ((a0, .inr (9, [g8, g9, g10, .ref a2, g11, g12, g13, g14, g15, g16, g17, g18, g19, g20, g21, .ref a3, g22, g23, g24, g25, g26, g27, g28, g29, .int v12_m_k.1, .int v12_m_k.2.1, .int v12_m_k.2.2, g30, g31, g32])) :: bX11 a2 uq kq q_q ([(a3, .inl (cB34, 26, .inl m_v))])) → va_S A s.heap H locs → lv_has ls 6 [(4, .int v92_t0), (5, .int v45_l5), (2, .int v12_l2), (0, .ref a0), (1, .int k1)] → W p l e (headSpec vfX12_loads { frames := 2, cells := 0, slots := 0, locals := 45 }).room s m ([.ref a0, .int k1]).toArray below meth c H locs 0 0 QQ (F0 m 110 ls [.int v110_t1, .int v45_l3]) := by
                        intro v110_t1 H locs ls h  hP hD hS hl
                        rw [f_X12_loads_J110] at h
                        refine lv_iadd hx hb (zat zrX12_loads_0_ok 59 rfl) ?_
                        refine lv_istore_n (lv' := [(3, .int (v45_l3 + v110_t1)), (4, .int v92_t0), (5, .int v45_l5), (2, .int v12_l2), (0, .ref a0), (1, .int k1)]) hx hb (zat zrX12_loads_0_ok 60 rfl) rfl hl (by decide) rfl (fun ls hl => ?_)
                        exact J112 v92_t0 (v45_l3 + v110_t1) H _ ls h zb_v92_t0 hP hD hS (lv_sub hl [2, 1, 0, 3, 4, 5] rfl)
                      refine lv_if_eq (tgt := 109) hx hb (zat zrX12_loads_0_ok 53 rfl) (by decide) (fun c97 => ?_) (fun c97 => ?_)
                      · have h := (if_pos c97).symm.trans h
                        refine lv_iconst (v := 0) hx hb (zat zrX12_loads_0_ok 58 rfl) (by decide) ?_
                        exact J110 (0 : Int32) H _ ls h  hP hD hS (lv_sub hl [0, 1, 3, 4, 5] rfl)
                      · have h := (if_neg c97).symm.trans h
                        refine lv_aload_n hx hb (zat zrX12_loads_0_ok 54 rfl) rfl (lv_at hl 4 rfl) ?_
                        refine lv_iload hx hb (zat zrX12_loads_0_ok 55 rfl) (lv_at hl 1 rfl) ?_
                        obtain ⟨o103, eo103, h⟩ := bd_of h
                        refine ck_i (wc := ((a0, .inr (9, [g8, g9, g10, .ref a2, g11, g12, g13, g14, g15, g16, g17, g18, g19, g20, g21, .ref a3, g22, g23, g24, g25, g26, g27, g28, g29, .int v12_m_k.1, .int v12_m_k.2.1, .int v12_m_k.2.2, g30, g31, g32])) :: bX11 a2 uq kq q_q ([(a3, .inl (cB34, 26, .inl m_v))]))) (wr := []) hP hD hK hS hA [0, 1, 2, 3, 4, 5, 6, 7, 8, 9, 10, 11, 12, 13, 14, 15, 16] [] rfl rfl (by decide) (by decide) (by decide) (fun hPc hDc => (va_runV (As := [.int v45_l5]) (rest := [.int v45_l3]) ⟨hx, hb, hml, hown, hts⟩ (kfX12_worthNow l dC dI a0 v45_l5 a2 a3 uq kq m_v (g8) (g9) (g10) (g11) (g12) (g13) (g14) (g15) (g16) (g17) (g18) (g19) (g20) (g21) (g22) (g23) (g24) (g25) (g26) (g27) (g28) (g29) (.int v12_m_k.1) (.int v12_m_k.2.1) (.int v12_m_k.2.2) (g30) (g31) (g32) q_q cB34 H.size o103 eo103) (cwV 1 hts gfX12_loads_2 rfl rfl rfl (by decide +kernel) ⟨(Nat.le_of_ble_eq_true rfl), (Nat.le_of_ble_eq_true rfl)⟩) (PV hPc (hK.sub (tys' := (tX11 kq ((cB34, .int) :: []))) [0, 1, 2, 3, 4, 5, 6, 7, 8, 9, 10, 11, 12, 13, 14] rfl) hDc hN 0 rfl rfl) rfl rfl hl.1 rfl (lv_room (Nat.le_of_ble_eq_true rfl)) (zat zrX12_loads_0_ok 56 rfl) ⟨(Nat.le_of_ble_eq_true rfl), (Nat.le_of_ble_eq_true rfl)⟩)) (fun r103 _ H locs hw hP hD _ hS => ?_)
                        obtain rfl := hw.symm
                        obtain ⟨hP, hD⟩ := pd_mk ((a0, .inr (9, [g8, g9, g10, .ref a2, g11, g12, g13, g14, g15, g16, g17, g18, g19, g20, g21, .ref a3, g22, g23, g24, g25, g26, g27, g28, g29, .int v12_m_k.1, .int v12_m_k.2.1, .int v12_m_k.2.2, g30, g31, g32])) :: bX11 a2 uq kq q_q ([(a3, .inl (cB34, 26, .inl m_v))])) hP hD
                        refine lv_goto (tgt := 110) hx hb (zat zrX12_loads_0_ok 57 rfl) (by decide) ?_
                        exact J110 o103 H _ ls h  hP hD hS (lv_sub hl [0, 1, 3, 4, 5] rfl)
                    refine lv_icmp_ne (tgt := 91) hx hb (zat zrX12_loads_0_ok 46 rfl) (by decide) (fun c84 => ?_) (fun c84 => ?_)
                    · have h := (if_neg c84).symm.trans h
                      refine lv_iconst (v := 0) hx hb (zat zrX12_loads_0_ok 49 rfl) (by decide) ?_
                      exact J92 (0 : Int32) H _ ls h (by decide) hP hD hS (lv_sub hl [0, 2, 3, 4, 5] rfl)
                    · have h := (if_pos c84).symm.trans h
                      refine lv_iconst (v := 1) hx hb (zat zrX12_loads_0_ok 47 rfl) (by decide) ?_
                      refine lv_goto (tgt := 92) hx hb (zat zrX12_loads_0_ok 48 rfl) (by decide) ?_
                      exact J92 (1 : Int32) H _ ls h (by decide) hP hD hS (lv_sub hl [0, 2, 3, 4, 5] rfl)
                  · have h := (if_pos c68).symm.trans h
                    refine lv_goto (tgt := 112) hx hb (zat zrX12_loads_0_ok 38 rfl) (by decide) ?_
                    exact J112 v45_l4 v45_l3 H _ ls h zb_v45_l4 hP hD hS (lv_sub hl [0, 1, 2, 3, 4, 5] rfl)
          exact L45 FU (0 : Int32) v40_t0 (0 : Int32) H _ ls h zb_v40_t0 hP hD hS (lv_sub hl [0, 1, 2, 3, 4, 5] rfl)
        refine lv_icmp_gt (tgt := 39) hx hb (zat zrX12_loads_0_ok 20 rfl) (by decide) (fun c32 => ?_) (fun c32 => ?_)
        · have h := (if_pos c32).symm.trans h
          refine lv_iconst (v := 0) hx hb (zat zrX12_loads_0_ok 23 rfl) (by decide) ?_
          exact J40 (0 : Int32) H _ ls h (by decide) hP hD hS (lv_sub hl [0, 1, 2, 3] rfl)
        · have h := (if_neg c32).symm.trans h
          refine lv_iconst (v := 1) hx hb (zat zrX12_loads_0_ok 21 rfl) (by decide) ?_
          refine lv_goto (tgt := 40) hx hb (zat zrX12_loads_0_ok 22 rfl) (by decide) ?_
          exact J40 (1 : Int32) H _ ls h (by decide) hP hD hS (lv_sub hl [0, 1, 2, 3] rfl)
  exact L12 FU (1 : Int32) (m_k.1, (0 : Int32), (0 : Int32)) H _ ls h  hP hD hS (lv_sub hl [0, 1, 2] rfl)
