noncomputable def zrX12_rests_0 : List ZR := zc 0 true (.aload_n 0) 1 (zc 1 true (.iconst 0) 1 (zc 2 true (.putfield 36) 3 (zc 5 true (.aload_n 0) 1 (zc 6 true (.iload_n 1) 1 (zc 7 true (.invokevirtual 457) 3 (zc 10 true (.istore_n 2) 1 (zc 11 true (.iload_n 2) 1 (zc 12 true (.ifCond .le 9) 3 (zc 15 true (.aload_n 0) 1 (zc 16 true (.iload_n 2) 1 (zc 17 true (.invokevirtual 42) 3 (zc 20 true (.ireturn) 1 (zc 21 true (.iconst 0) 1 (zc 22 true (.istore_n 3) 1 (zc 23 true (.iconst 0) 1 (zc 24 true (.istore 4) 2 (zc 26 true (.iload 4) 2 (zc 28 true (.bipush 49) 2 (zc 30 true (.if_icmp .ge 34) 3 (zc 33 true (.iload_n 3) 1 (zc 34 true (.iload_n 1) 1 (zc 35 true (.iload 4) 2 (zc 37 true (.bipush 7) 2 (zc 39 true (.idiv) 1 (zc 40 true (.iload 4) 2 (zc 42 true (.bipush 7) 2 (zc 44 true (.irem) 1 (zc 45 true (.invokestatic 460) 3 (zc 48 true (.ifCond .eq 7) 3 (zc 51 true (.iconst 1) 1 (zc 52 true (.goto 4) 3 (zc 55 true (.iconst 0) 1 (zc 56 true (.iadd) 1 (zc 57 true (.istore_n 3) 1 (zc 58 true (.iinc 4 1) 3 (zc 61 true (.goto (-35)) 3 (zc 64 true (.aload_n 0) 1 (zc 65 true (.iload_n 3) 1 (zc 66 true (.invokevirtual 46) 3 (zc 69 true (.ireturn) 1 ([])))))))))))))))))))))))))))))))))))))))))
theorem zrX12_rests_0_ok : zck 0 ((zby cX12_rests).drop 0) zrX12_rests_0 = true := by decide +kernel
def vfX12_rests : List Cond := List.cons (.code yX12_rests cX12_rests 5 (some .int)) (apW [.fieldLink RX12 36 "HookPierModel" "thrown" "I", .methodLink RX12 457 yX12_refusesStock, .instanceMethod yX12_refusesStock, .selects RX12 yX12_refusesStock yX12_refusesStock, .initialized RX12, .methodLink RX12 46 yX12_good, .instanceMethod yX12_good, .selects RX12 yX12_good yX12_good, .methodLink RX12 460 yX12_isRest, .static yX12_isRest, .methodLink RX12 42 yX12_refused, .instanceMethod yX12_refused, .selects RX12 yX12_refused yX12_refused] (apW wsX120 (apW vfX12_refusesStock (apW vfX12_good (apW vfX12_isRest (vfX12_refused))))))
theorem ifX12_rests_X12 : ∀ w ∈ wsX120, w ∈ vfX12_rests := fun _ h => (List.mem_cons_of_mem _ (List.mem_append_right _ (List.mem_append_left _ h)))
theorem qfX12_rests : Good vfX12_rests := gd_cons (by decide +kernel) (gd_app (gd_dec (by decide +kernel) : Good [.fieldLink RX12 36 "HookPierModel" "thrown" "I", .methodLink RX12 457 yX12_refusesStock, .instanceMethod yX12_refusesStock, .selects RX12 yX12_refusesStock yX12_refusesStock, .initialized RX12, .methodLink RX12 46 yX12_good, .instanceMethod yX12_good, .selects RX12 yX12_good yX12_good, .methodLink RX12 460 yX12_isRest, .static yX12_isRest, .methodLink RX12 42 yX12_refused, .instanceMethod yX12_refused, .selects RX12 yX12_refused yX12_refused]) (gd_app qsX12 (gd_app qfX12_refusesStock (gd_app qfX12_good (gd_app qfX12_isRest qfX12_refused)))))
theorem gfX12_rests_0 : GoodIn vfX12_rests (wsV RX12 457 RX12 yX12_refusesStock vfX12_refusesStock) := goodIn_app (goodIn_r [.methodLink RX12 457 yX12_refusesStock, .instanceMethod yX12_refusesStock, .selects RX12 yX12_refusesStock yX12_refusesStock, .initialized RX12] [2, 3, 4, 5] rfl (by decide +kernel)) (goodIn_m (fun _ h => (List.mem_cons_of_mem _ (List.mem_append_right _ (List.mem_append_right _ (List.mem_append_left _ h))))) qfX12_refusesStock)
theorem gfX12_rests_1 : GoodIn vfX12_rests (wsV RX12 46 RX12 yX12_good vfX12_good) := goodIn_app (goodIn_r [.methodLink RX12 46 yX12_good, .instanceMethod yX12_good, .selects RX12 yX12_good yX12_good, .initialized RX12] [6, 7, 8, 5] rfl (by decide +kernel)) (goodIn_m (fun _ h => (List.mem_cons_of_mem _ (List.mem_append_right _ (List.mem_append_right _ (List.mem_append_right _ (List.mem_append_left _ h)))))) qfX12_good)
theorem gfX12_rests_2 : GoodIn vfX12_rests (va_wsS RX12 460 yX12_isRest vfX12_isRest) := goodIn_app (goodIn_r [.methodLink RX12 460 yX12_isRest, .static yX12_isRest, .initialized RX12] [9, 10, 5] rfl (by decide +kernel)) (goodIn_m (fun _ h => (List.mem_cons_of_mem _ (List.mem_append_right _ (List.mem_append_right _ (List.mem_append_right _ (List.mem_append_right _ (List.mem_append_left _ h))))))) qfX12_isRest)
theorem gfX12_rests_3 : GoodIn vfX12_rests (wsV RX12 42 RX12 yX12_refused vfX12_refused) := goodIn_app (goodIn_r [.methodLink RX12 42 yX12_refused, .instanceMethod yX12_refused, .selects RX12 yX12_refused yX12_refused, .initialized RX12] [11, 12, 13, 5] rfl (by decide +kernel)) (goodIn_m (fun _ h => (List.mem_cons_of_mem _ (List.mem_append_right _ (List.mem_append_right _ (List.mem_append_right _ (List.mem_append_right _ (List.mem_append_right _ h))))))) qfX12_refused)
set_option maxHeartbeats 2000000 in
set_option maxRecDepth 100000 in
theorem kfX12_rests (l : Launch) (dC : Nat → ClassId) (dI : Nat → Nat → Nat) (a0 : Nat) (k1 : Int32) (m_t : TX12_t) (a3 : Nat) (g4 : Value) (g5 : Value) (g6 : Value) (g7 : Value) (g8 : Value) (g9 : Value) (g10 : Value) (g11 : Value) (g12 : Value) (g13 : Value) (g14 : Value) (g15 : Value) (g16 : Value) (g17 : Value) (g18 : Value) (g19 : Value) (g20 : Value) (g21 : Value) (g22 : Value) (g23 : Value) (g24 : Value) (g25 : Value) (g26 : Value) (g27 : Value) (g28 : Value) (g29 : Value) (sz : Nat) (out : (Int32 × TX12_t)) (h : f_X12_rests k1 m_t = some out) : KCi l yX12_rests vfX12_rests ({ frames := 2, cells := 0, slots := 0, locals := 45 }) (dC, dI) [.ref a0, .int k1] sz ([(a0, .inr (9, [.int m_t.1, .int m_t.2.1, .int m_t.2.2, .ref a3, g4, g5, g6, g7, g8, g9, g10, g11, g12, g13, g14, g15, g16, g17, g18, g19, g20, g21, g22, g23, g24, g25, g26, g27, g28, g29]))]) ([]) (fun (r : Int32) _ => r = out.1) ([(a0, .inr (9, [.int out.2.1, .int out.2.2.1, .int out.2.2.2, .ref a3, g4, g5, g6, g7, g8, g9, g10, g11, g12, g13, g14, g15, g16, g17, g18, g19, g20, g21, g22, g23, g24, g25, g26, g27, g28, g29]))]) 0 0 := by
  refine Met.ofW (cc := cX12_rests) (maxL := 5) (ret := (some .int)) (by decide) rfl ?_
  intro p e s m args below meth c s₁ B0 hml hv
  obtain ⟨rfl, hsz, hP, hK, hD0, hN⟩ := hv
  have hx := B0.exec
  have hb := B0.bytes
  have hr := B0.returns
  have hts := atoms_spec (ws := vfX12_rests) B0.pre
  have hown : s.vm.findClass RX12 = some m.cls := findClass_of_methodNamed B0.named
  have hlocks := B0.notSynchronized
  subst hsz
  have hD := hD0.self (sz := s.heap.size)
  generalize hAe : va_A ([(a0, .inr (9, [.int m_t.1, .int m_t.2.1, .int m_t.2.2, .ref a3, g4, g5, g6, g7, g8, g9, g10, g11, g12, g13, g14, g15, g16, g17, g18, g19, g20, g21, g22, g23, g24, g25, g26, g27, g28, g29]))]) s.heap.size = A at hD ⊢
  have hA : ∀ q : Nat, s.heap.size ≤ q → A q := fun q h => by rw [← hAe]; exact Or.inr h
  have hS : va_S A s.heap s.heap [] := va_S.rf
  have hP : va_P (dC, dI) vwCl ([(a0, .inr (9, [.int m_t.1, .int m_t.2.1, .int m_t.2.2, .ref a3, g4, g5, g6, g7, g8, g9, g10, g11, g12, g13, g14, g15, g16, g17, g18, g19, g20, g21, g22, g23, g24, g25, g26, g27, g28, g29]))]) s.heap := hP
  have hl := lv_entry ([.ref a0, .int k1]) (n := 5) (Nat.le_of_ble_eq_true rfl)
  rw [lg_entry_eq]
  generalize (lg_sl ([.ref a0, .int k1]) ++ List.replicate (5 - (lg_sl ([.ref a0, .int k1])).length) Slot.unset).toArray = ls at hl ⊢
  have hl : lv_has ls 5 [(0, .ref a0), (1, .int k1)] := hl
  refine W_q (fun QQ hQQ => ?_)
  rw [f_X12_rests] at h
  refine lv_aload_n hx hb (zat zrX12_rests_0_ok 0 rfl) rfl (lv_at hl 0 rfl) ?_
  refine lv_iconst (v := 0) hx hb (zat zrX12_rests_0_ok 1 rfl) (by decide) ?_
  refine va_put (D := (dC, dI)) (ci := 9) (v := .int 0) (ty := .int) (C := RX12) (T := TX12) (N := 30) hx hb hts ifX12_rests_X12 tyX12 tyX12_ok nmX12 hown hK hP hD hS 0 rfl rfl 0 (by decide) (hts (.fieldLink RX12 36 "HookPierModel" "thrown" "I") (List.mem_of_getElem? (i := 1) rfl)) (fun _ h9 => h9) rfl (by decide +kernel) rfl rfl (Nat.le_of_ble_eq_true rfl) (zat zrX12_rests_0_ok 2 rfl) (fun H locs hP hD hS => ?_)
  obtain ⟨hP, hD⟩ := pd_mk ([(a0, .inr (9, [.int 0, .int m_t.2.1, .int m_t.2.2, .ref a3, g4, g5, g6, g7, g8, g9, g10, g11, g12, g13, g14, g15, g16, g17, g18, g19, g20, g21, g22, g23, g24, g25, g26, g27, g28, g29]))]) hP hD
  refine lv_aload_n hx hb (zat zrX12_rests_0_ok 3 rfl) rfl (lv_at hl 0 rfl) ?_
  refine lv_iload_n hx hb (zat zrX12_rests_0_ok 4 rfl) rfl (lv_at hl 1 rfl) ?_
  obtain ⟨o7, eo7⟩ : ∃ o, o = f_X12_refusesStock k1 := ⟨_, rfl⟩
  have h := nm_of h o7 eo7
  refine ck_i (wc := ([(a0, .inr (9, [.int 0, .int m_t.2.1, .int m_t.2.2, .ref a3, g4, g5, g6, g7, g8, g9, g10, g11, g12, g13, g14, g15, g16, g17, g18, g19, g20, g21, g22, g23, g24, g25, g26, g27, g28, g29]))])) (wr := []) hP hD hK hS hA [0] [] rfl rfl (by decide) (by decide) (by decide) (fun hPc hDc => (va_runV (As := [.int k1]) (rest := []) ⟨hx, hb, hml, hown, hts⟩ (kfX12_refusesStock l dC dI a0 k1 (.int 0) (.int m_t.2.1) (.int m_t.2.2) a3 (g4) (g5) (g6) (g7) (g8) (g9) (g10) (g11) (g12) (g13) (g14) (g15) (g16) (g17) (g18) (g19) (g20) (g21) (g22) (g23) (g24) (g25) (g26) (g27) (g28) (g29) H.size o7 eo7.symm) (cwV 1 hts gfX12_rests_0 rfl rfl rfl (by decide +kernel) ⟨(Nat.le_of_ble_eq_true rfl), (Nat.le_of_ble_eq_true rfl)⟩) (PV hPc (hK.sub (tys' := ([])) [] rfl) hDc hN 0 rfl rfl) rfl rfl hl.1 rfl (lv_room (Nat.le_of_ble_eq_true rfl)) (zat zrX12_rests_0_ok 5 rfl) ⟨(Nat.le_of_ble_eq_true rfl), (Nat.le_of_ble_eq_true rfl)⟩)) (fun r7 _ H locs hw hP hD _ hS => ?_)
  obtain rfl := hw.symm
  obtain ⟨hP, hD⟩ := pd_mk ([(a0, .inr (9, [.int 0, .int m_t.2.1, .int m_t.2.2, .ref a3, g4, g5, g6, g7, g8, g9, g10, g11, g12, g13, g14, g15, g16, g17, g18, g19, g20, g21, g22, g23, g24, g25, g26, g27, g28, g29]))]) hP hD
  refine lv_istore_n (lv' := [(2, .int o7), (0, .ref a0), (1, .int k1)]) hx hb (zat zrX12_rests_0_ok 6 rfl) rfl hl (by decide) rfl (fun ls hl => ?_)
  refine lv_iload_n hx hb (zat zrX12_rests_0_ok 7 rfl) rfl (lv_at hl 0 rfl) ?_
  refine lv_if_le (tgt := 21) hx hb (zat zrX12_rests_0_ok 8 rfl) (by decide) (fun c12 => ?_) (fun c12 => ?_)
  · have h := (if_pos c12).symm.trans h
    refine lv_iconst (v := 0) hx hb (zat zrX12_rests_0_ok 13 rfl) (by decide) ?_
    refine lv_istore_n (lv' := [(3, .int 0), (2, .int o7), (0, .ref a0), (1, .int k1)]) hx hb (zat zrX12_rests_0_ok 14 rfl) rfl hl (by decide) rfl (fun ls hl => ?_)
    refine lv_iconst (v := 0) hx hb (zat zrX12_rests_0_ok 15 rfl) (by decide) ?_
    refine lv_istore (lv' := [(4, .int 0), (3, .int 0), (2, .int o7), (0, .ref a0), (1, .int k1)]) hx hb (zat zrX12_rests_0_ok 16 rfl) hl (by decide) rfl (fun ls hl => ?_)
    have L26 : ∀ (n26 : Nat) (v26_l4 : Int32) (v26_l3 : Int32) (H : Heap) (locs : List Loc) (ls : Array Slot), f_X12_rests_L26 k1 m_t n26 v26_l4 v26_l3 = some out → va_P (dC, dI) vwCl ([(a0, .inr (9, [.int 0, .int m_t.2.1, .int m_t.2.2, .ref a3, g4, g5, g6, g7, g8, g9, g10, g11, g12, g13, g14, g15, g16, g17, g18, g19, g20, g21, g22, g23, g24, g25, g26, g27, g28, g29]))]) H → va_D A ([(a0, .inr (9, [.int 0, .int m_t.2.1, .int m_t.2.2, .ref a3, g4, g5, g6, g7, g8, g9, g10, g11, g12, g13, g14, g15, g16, g17, g18, g19, g20, g21, g22, g23, g24, g25, g26, g27, g28, g29]))]) → va_S A s.heap H locs → lv_has ls 5 [(4, .int v26_l4), (3, .int v26_l3), (0, .ref a0), (1, .int k1)] → W p l e (headSpec vfX12_rests { frames := 2, cells := 0, slots := 0, locals := 45 }).room s m ([.ref a0, .int k1]).toArray below meth c H locs 0 0 QQ (F0 m 26 ls []) := by
      intro n26
      induction n26 with
      | zero =>
        intro v26_l4 v26_l3 H locs ls h  _ _ _ _
        rw [f_X12_rests_L26] at h
        cases h
      | succ n26 ih26 =>
        intro v26_l4 v26_l3 H locs ls h  hP hD hS hl
        rw [f_X12_rests_L26] at h
        refine lv_iload hx hb (zat zrX12_rests_0_ok 17 rfl) (lv_at hl 0 rfl) ?_
        refine lv_bipush (v := 49) hx hb (zat zrX12_rests_0_ok 18 rfl) (by decide) ?_
        refine lv_icmp_ge (tgt := 64) hx hb (zat zrX12_rests_0_ok 19 rfl) (by decide) (fun c30 => ?_) (fun c30 => ?_)
        · have h := (if_pos c30).symm.trans h
          refine lv_aload_n hx hb (zat zrX12_rests_0_ok 37 rfl) rfl (lv_at hl 2 rfl) ?_
          refine lv_iload_n hx hb (zat zrX12_rests_0_ok 38 rfl) rfl (lv_at hl 1 rfl) ?_
          obtain ⟨o66, eo66⟩ : ∃ o, o = f_X12_good v26_l3 ((0 : Int32), m_t.2) := ⟨_, rfl⟩
          have h := nm_of h o66 eo66
          refine ck_i (wc := ([(a0, .inr (9, [.int 0, .int m_t.2.1, .int m_t.2.2, .ref a3, g4, g5, g6, g7, g8, g9, g10, g11, g12, g13, g14, g15, g16, g17, g18, g19, g20, g21, g22, g23, g24, g25, g26, g27, g28, g29]))])) (wr := []) hP hD hK hS hA [0] [] rfl rfl (by decide) (by decide) (by decide) (fun hPc hDc => (va_runV (As := [.int v26_l3]) (rest := []) ⟨hx, hb, hml, hown, hts⟩ (kfX12_good l dC dI a0 v26_l3 ((0 : Int32), m_t.2) (.ref a3) (g4) (g5) (g6) (g7) (g8) (g9) (g10) (g11) (g12) (g13) (g14) (g15) (g16) (g17) (g18) (g19) (g20) (g21) (g22) (g23) (g24) (g25) (g26) (g27) (g28) (g29) H.size o66 eo66.symm) (cwV 1 hts gfX12_rests_1 rfl rfl rfl (by decide +kernel) ⟨(Nat.le_of_ble_eq_true rfl), (Nat.le_of_ble_eq_true rfl)⟩) (PV hPc (hK.sub (tys' := ([])) [] rfl) hDc hN 0 rfl rfl) rfl rfl hl.1 rfl (lv_room (Nat.le_of_ble_eq_true rfl)) (zat zrX12_rests_0_ok 39 rfl) ⟨(Nat.le_of_ble_eq_true rfl), (Nat.le_of_ble_eq_true rfl)⟩)) (fun r66 _ H locs hw hP hD _ hS => ?_)
          obtain rfl := hw
          obtain ⟨hP, hD⟩ := pd_mk ([(a0, .inr (9, [.int o66.2.1, .int o66.2.2.1, .int o66.2.2.2, .ref a3, g4, g5, g6, g7, g8, g9, g10, g11, g12, g13, g14, g15, g16, g17, g18, g19, g20, g21, g22, g23, g24, g25, g26, g27, g28, g29]))]) hP hD
          obtain rfl := Option.some.inj h
          obtain ⟨hP9, hD9⟩ := pd_sub ([(a0, .inr (9, [.int o66.2.1, .int o66.2.2.1, .int o66.2.2.2, .ref a3, g4, g5, g6, g7, g8, g9, g10, g11, g12, g13, g14, g15, g16, g17, g18, g19, g20, g21, g22, g23, g24, g25, g26, g27, g28, g29]))]) [0] hP hD (by decide) rfl
          have hK9 := hK.sub (tys' := []) [] rfl
          rw [hQQ]
          exact W.iret (v := o66.1) hx hb hr (fun t ht hW => ⟨⟨o66.1, (), rfl, rfl, by rw [ht]; exact hP9, va_K.moved hW.alike hK9, hD9⟩, hS.F ht⟩) hS.2.2 (zat zrX12_rests_0_ok 40 rfl)
        · have h := (if_neg c30).symm.trans h
          refine lv_iload_n hx hb (zat zrX12_rests_0_ok 20 rfl) rfl (lv_at hl 1 rfl) ?_
          refine lv_iload_n hx hb (zat zrX12_rests_0_ok 21 rfl) rfl (lv_at hl 3 rfl) ?_
          refine lv_iload hx hb (zat zrX12_rests_0_ok 22 rfl) (lv_at hl 0 rfl) ?_
          refine lv_bipush (v := 7) hx hb (zat zrX12_rests_0_ok 23 rfl) (by decide) ?_
          refine lv_idiv hx hb (zat zrX12_rests_0_ok 24 rfl) (by decide) ?_
          refine lv_iload hx hb (zat zrX12_rests_0_ok 25 rfl) (lv_at hl 0 rfl) ?_
          refine lv_bipush (v := 7) hx hb (zat zrX12_rests_0_ok 26 rfl) (by decide) ?_
          refine lv_irem hx hb (zat zrX12_rests_0_ok 27 rfl) (by decide) ?_
          obtain ⟨o45, eo45, h⟩ := bd_of h
          refine ck_i (wc := []) (wr := ([(a0, .inr (9, [.int 0, .int m_t.2.1, .int m_t.2.2, .ref a3, g4, g5, g6, g7, g8, g9, g10, g11, g12, g13, g14, g15, g16, g17, g18, g19, g20, g21, g22, g23, g24, g25, g26, g27, g28, g29]))])) hP hD hK hS hA [] [0] rfl rfl (by decide) (by decide) (by decide) (fun hPc hDc => (va_runS (As := [.int k1, .int (v26_l4 / (7 : Int32)), .int (v26_l4 - v26_l4 / (7 : Int32) * (7 : Int32))]) (rest := [.int v26_l3]) ⟨hx, hb, hml, hown, hts⟩ (kfX12_isRest l dC dI k1 (v26_l4 / (7 : Int32)) (v26_l4 - v26_l4 / (7 : Int32) * (7 : Int32)) H.size o45 eo45) (va_cwS 3 hts gfX12_rests_2 rfl rfl rfl (by decide +kernel) ⟨(Nat.le_of_ble_eq_true rfl), (Nat.le_of_ble_eq_true rfl)⟩) (PS hPc (hK.sub (tys' := ([])) [] rfl) hDc hN) rfl rfl hl.1 rfl (lv_room (Nat.le_of_ble_eq_true rfl)) (zat zrX12_rests_0_ok 28 rfl) ⟨(Nat.le_of_ble_eq_true rfl), (Nat.le_of_ble_eq_true rfl)⟩)) (fun r45 _ H locs hw hP hD _ hS => ?_)
          obtain ⟨hw, br45⟩ := hw
          obtain rfl := hw.symm
          obtain ⟨hP, hD⟩ := pd_mk ([(a0, .inr (9, [.int 0, .int m_t.2.1, .int m_t.2.2, .ref a3, g4, g5, g6, g7, g8, g9, g10, g11, g12, g13, g14, g15, g16, g17, g18, g19, g20, g21, g22, g23, g24, g25, g26, g27, g28, g29]))]) hP hD
          have J56 : ∀ (v56_t1 : Int32) (H : Heap) (locs : List Loc) (ls : Array Slot), f_X12_rests_J56 (f_X12_rests_L26 k1 m_t n26) v26_l3 v26_l4 v56_t1 = some out → 0 ≤ v56_t1.toInt ∧ v56_t1.toInt ≤ 1 → va_P (dC, dI) vwCl ([(a0, .inr (9, [.int 0, .int m_t.2.1, .int m_t.2.2, .ref a3, g4, g5, g6, g7, g8, g9, g10, g11, g12, g13, g14, g15, g16, g17, g18, g19, g20, g21, g22, g23, g24, g25, g26, g27, g28, g29]))]) H → va_D A ([(a0, .inr (9, [.int 0, .int m_t.2.1, .int m_t.2.2, .ref a3, g4, g5, g6, g7, g8, g9, g10, g11, g12, g13, g14, g15, g16, g17, g18, g19, g20, g21, g22, g23, g24, g25, g26, g27, g28, g29]))]) → va_S A s.heap H locs → lv_has ls 5 [(4, .int v26_l4), (0, .ref a0), (1, .int k1)] → W p l e (headSpec vfX12_rests { frames := 2, cells := 0, slots := 0, locals := 45 }).room s m ([.ref a0, .int k1]).toArray below meth c H locs 0 0 QQ (F0 m 56 ls [.int v56_t1, .int v26_l3]) := by
            intro v56_t1 H locs ls h zb_v56_t1 hP hD hS hl
            rw [f_X12_rests_J56] at h
            refine lv_iadd hx hb (zat zrX12_rests_0_ok 33 rfl) ?_
            refine lv_istore_n (lv' := [(3, .int (v26_l3 + v56_t1)), (4, .int v26_l4), (0, .ref a0), (1, .int k1)]) hx hb (zat zrX12_rests_0_ok 34 rfl) rfl hl (by decide) rfl (fun ls hl => ?_)
            refine lv_iinc (v := (v26_l4 + (1 : Int32))) (lv' := [(4, .int (v26_l4 + (1 : Int32))), (3, .int (v26_l3 + v56_t1)), (0, .ref a0), (1, .int k1)]) hx hb (zat zrX12_rests_0_ok 35 rfl) hl (k := 1) rfl rfl (by decide) rfl (fun ls hl => ?_)
            refine lv_goto (tgt := 26) hx hb (zat zrX12_rests_0_ok 36 rfl) (by decide) ?_
            exact ih26 (v26_l4 + (1 : Int32)) (v26_l3 + v56_t1) H _ ls h  hP hD hS (lv_sub hl [0, 1, 2, 3] rfl)
          refine lv_if_eq (tgt := 55) hx hb (zat zrX12_rests_0_ok 29 rfl) (by decide) (fun c48 => ?_) (fun c48 => ?_)
          · have h := (if_pos c48).symm.trans h
            refine lv_iconst (v := 0) hx hb (zat zrX12_rests_0_ok 32 rfl) (by decide) ?_
            exact J56 (0 : Int32) H _ ls h (by decide) hP hD hS (lv_sub hl [0, 2, 3] rfl)
          · have h := (if_neg c48).symm.trans h
            refine lv_iconst (v := 1) hx hb (zat zrX12_rests_0_ok 30 rfl) (by decide) ?_
            refine lv_goto (tgt := 56) hx hb (zat zrX12_rests_0_ok 31 rfl) (by decide) ?_
            exact J56 (1 : Int32) H _ ls h (by decide) hP hD hS (lv_sub hl [0, 2, 3] rfl)
    exact L26 FU (0 : Int32) (0 : Int32) H _ ls h  hP hD hS (lv_sub hl [0, 1, 3, 4] rfl)
  · have h := (if_neg c12).symm.trans h
    refine lv_aload_n hx hb (zat zrX12_rests_0_ok 9 rfl) rfl (lv_at hl 1 rfl) ?_
    refine lv_iload_n hx hb (zat zrX12_rests_0_ok 10 rfl) rfl (lv_at hl 0 rfl) ?_
    obtain ⟨o17, eo17⟩ : ∃ o, o = f_X12_refused o7 ((0 : Int32), m_t.2) := ⟨_, rfl⟩
    have h := nm_of h o17 eo17
    refine ck_i (wc := ([(a0, .inr (9, [.int 0, .int m_t.2.1, .int m_t.2.2, .ref a3, g4, g5, g6, g7, g8, g9, g10, g11, g12, g13, g14, g15, g16, g17, g18, g19, g20, g21, g22, g23, g24, g25, g26, g27, g28, g29]))])) (wr := []) hP hD hK hS hA [0] [] rfl rfl (by decide) (by decide) (by decide) (fun hPc hDc => (va_runV (As := [.int o7]) (rest := []) ⟨hx, hb, hml, hown, hts⟩ (kfX12_refused l dC dI a0 o7 ((0 : Int32), m_t.2) (.ref a3) (g4) (g5) (g6) (g7) (g8) (g9) (g10) (g11) (g12) (g13) (g14) (g15) (g16) (g17) (g18) (g19) (g20) (g21) (g22) (g23) (g24) (g25) (g26) (g27) (g28) (g29) H.size o17 eo17.symm) (cwV 1 hts gfX12_rests_3 rfl rfl rfl (by decide +kernel) ⟨(Nat.le_of_ble_eq_true rfl), (Nat.le_of_ble_eq_true rfl)⟩) (PV hPc (hK.sub (tys' := ([])) [] rfl) hDc hN 0 rfl rfl) rfl rfl hl.1 rfl (lv_room (Nat.le_of_ble_eq_true rfl)) (zat zrX12_rests_0_ok 11 rfl) ⟨(Nat.le_of_ble_eq_true rfl), (Nat.le_of_ble_eq_true rfl)⟩)) (fun r17 _ H locs hw hP hD _ hS => ?_)
    obtain rfl := hw
    obtain ⟨hP, hD⟩ := pd_mk ([(a0, .inr (9, [.int o17.1, .int o17.2.1, .int o17.2.2, .ref a3, g4, g5, g6, g7, g8, g9, g10, g11, g12, g13, g14, g15, g16, g17, g18, g19, g20, g21, g22, g23, g24, g25, g26, g27, g28, g29]))]) hP hD
    obtain rfl := Option.some.inj h
    obtain ⟨hP9, hD9⟩ := pd_sub ([(a0, .inr (9, [.int o17.1, .int o17.2.1, .int o17.2.2, .ref a3, g4, g5, g6, g7, g8, g9, g10, g11, g12, g13, g14, g15, g16, g17, g18, g19, g20, g21, g22, g23, g24, g25, g26, g27, g28, g29]))]) [0] hP hD (by decide) rfl
    have hK9 := hK.sub (tys' := []) [] rfl
    rw [hQQ]
    exact W.iret (v := (-1 : Int32)) hx hb hr (fun t ht hW => ⟨⟨(-1 : Int32), (), rfl, rfl, by rw [ht]; exact hP9, va_K.moved hW.alike hK9, hD9⟩, hS.F ht⟩) hS.2.2 (zat zrX12_rests_0_ok 12 rfl)
noncomputable def zrX12_rest_0 : List ZR := zc 0 true (.aload_n 0) 1 (zc 1 true (.iconst 0) 1 (zc 2 true (.putfield 36) 3 (zc 5 true (.aload_n 0) 1 (zc 6 true (.iload_n 1) 1 (zc 7 true (.invokevirtual 457) 3 (zc 10 true (.istore_n 2) 1 (zc 11 true (.iload_n 2) 1 (zc 12 true (.ifCond .le 9) 3 (zc 15 true (.aload_n 0) 1 (zc 16 true (.iload_n 2) 1 (zc 17 true (.invokevirtual 42) 3 (zc 20 true (.ireturn) 1 (zc 21 true (.iconst 0) 1 (zc 22 true (.istore_n 3) 1 (zc 23 true (.iload_n 3) 1 (zc 24 true (.bipush 49) 2 (zc 26 true (.if_icmp .ge 41) 3 (zc 29 true (.iload_n 1) 1 (zc 30 true (.iload_n 3) 1 (zc 31 true (.bipush 7) 2 (zc 33 true (.idiv) 1 (zc 34 true (.iload_n 3) 1 (zc 35 true (.bipush 7) 2 (zc 37 true (.irem) 1 (zc 38 true (.invokestatic 460) 3 (zc 41 true (.ifCond .eq 20) 3 (zc 44 true (.aload_n 0) 1 (zc 45 true (.bipush 10) 2 (zc 47 true (.iload_n 3) 1 (zc 48 true (.bipush 7) 2 (zc 50 true (.idiv) 1 (zc 51 true (.imul) 1 (zc 52 true (.iload_n 3) 1 (zc 53 true (.bipush 7) 2 (zc 55 true (.irem) 1 (zc 56 true (.iadd) 1 (zc 57 true (.invokevirtual 46) 3 (zc 60 true (.ireturn) 1 (zc 61 true (.iinc 3 1) 3 (zc 64 true (.goto (-41)) 3 (zc 67 true (.aload_n 0) 1 (zc 68 true (.bipush (-2)) 2 (zc 70 true (.invokevirtual 46) 3 (zc 73 true (.ireturn) 1 ([])))))))))))))))))))))))))))))))))))))))))))))
theorem zrX12_rest_0_ok : zck 0 ((zby cX12_rest).drop 0) zrX12_rest_0 = true := by decide +kernel
def vfX12_rest : List Cond := List.cons (.code yX12_rest cX12_rest 4 (some .int)) (apW [.fieldLink RX12 36 "HookPierModel" "thrown" "I", .methodLink RX12 457 yX12_refusesStock, .instanceMethod yX12_refusesStock, .selects RX12 yX12_refusesStock yX12_refusesStock, .initialized RX12, .methodLink RX12 46 yX12_good, .instanceMethod yX12_good, .selects RX12 yX12_good yX12_good, .methodLink RX12 460 yX12_isRest, .static yX12_isRest, .methodLink RX12 42 yX12_refused, .instanceMethod yX12_refused, .selects RX12 yX12_refused yX12_refused] (apW wsX120 (apW vfX12_refusesStock (apW vfX12_good (apW vfX12_isRest (vfX12_refused))))))
theorem ifX12_rest_X12 : ∀ w ∈ wsX120, w ∈ vfX12_rest := fun _ h => (List.mem_cons_of_mem _ (List.mem_append_right _ (List.mem_append_left _ h)))
theorem qfX12_rest : Good vfX12_rest := gd_cons (by decide +kernel) (gd_app (gd_dec (by decide +kernel) : Good [.fieldLink RX12 36 "HookPierModel" "thrown" "I", .methodLink RX12 457 yX12_refusesStock, .instanceMethod yX12_refusesStock, .selects RX12 yX12_refusesStock yX12_refusesStock, .initialized RX12, .methodLink RX12 46 yX12_good, .instanceMethod yX12_good, .selects RX12 yX12_good yX12_good, .methodLink RX12 460 yX12_isRest, .static yX12_isRest, .methodLink RX12 42 yX12_refused, .instanceMethod yX12_refused, .selects RX12 yX12_refused yX12_refused]) (gd_app qsX12 (gd_app qfX12_refusesStock (gd_app qfX12_good (gd_app qfX12_isRest qfX12_refused)))))
theorem gfX12_rest_0 : GoodIn vfX12_rest (wsV RX12 457 RX12 yX12_refusesStock vfX12_refusesStock) := goodIn_app (goodIn_r [.methodLink RX12 457 yX12_refusesStock, .instanceMethod yX12_refusesStock, .selects RX12 yX12_refusesStock yX12_refusesStock, .initialized RX12] [2, 3, 4, 5] rfl (by decide +kernel)) (goodIn_m (fun _ h => (List.mem_cons_of_mem _ (List.mem_append_right _ (List.mem_append_right _ (List.mem_append_left _ h))))) qfX12_refusesStock)
theorem gfX12_rest_1 : GoodIn vfX12_rest (wsV RX12 46 RX12 yX12_good vfX12_good) := goodIn_app (goodIn_r [.methodLink RX12 46 yX12_good, .instanceMethod yX12_good, .selects RX12 yX12_good yX12_good, .initialized RX12] [6, 7, 8, 5] rfl (by decide +kernel)) (goodIn_m (fun _ h => (List.mem_cons_of_mem _ (List.mem_append_right _ (List.mem_append_right _ (List.mem_append_right _ (List.mem_append_left _ h)))))) qfX12_good)
theorem gfX12_rest_2 : GoodIn vfX12_rest (va_wsS RX12 460 yX12_isRest vfX12_isRest) := goodIn_app (goodIn_r [.methodLink RX12 460 yX12_isRest, .static yX12_isRest, .initialized RX12] [9, 10, 5] rfl (by decide +kernel)) (goodIn_m (fun _ h => (List.mem_cons_of_mem _ (List.mem_append_right _ (List.mem_append_right _ (List.mem_append_right _ (List.mem_append_right _ (List.mem_append_left _ h))))))) qfX12_isRest)
theorem gfX12_rest_3 : GoodIn vfX12_rest (wsV RX12 42 RX12 yX12_refused vfX12_refused) := goodIn_app (goodIn_r [.methodLink RX12 42 yX12_refused, .instanceMethod yX12_refused, .selects RX12 yX12_refused yX12_refused, .initialized RX12] [11, 12, 13, 5] rfl (by decide +kernel)) (goodIn_m (fun _ h => (List.mem_cons_of_mem _ (List.mem_append_right _ (List.mem_append_right _ (List.mem_append_right _ (List.mem_append_right _ (List.mem_append_right _ h))))))) qfX12_refused)
set_option maxHeartbeats 2000000 in
set_option maxRecDepth 100000 in
theorem kfX12_rest (l : Launch) (dC : Nat → ClassId) (dI : Nat → Nat → Nat) (a0 : Nat) (k1 : Int32) (m_t : TX12_t) (a3 : Nat) (g4 : Value) (g5 : Value) (g6 : Value) (g7 : Value) (g8 : Value) (g9 : Value) (g10 : Value) (g11 : Value) (g12 : Value) (g13 : Value) (g14 : Value) (g15 : Value) (g16 : Value) (g17 : Value) (g18 : Value) (g19 : Value) (g20 : Value) (g21 : Value) (g22 : Value) (g23 : Value) (g24 : Value) (g25 : Value) (g26 : Value) (g27 : Value) (g28 : Value) (g29 : Value) (sz : Nat) (out : (Int32 × TX12_t)) (h : f_X12_rest k1 m_t = some out) : KCi l yX12_rest vfX12_rest ({ frames := 2, cells := 0, slots := 0, locals := 45 }) (dC, dI) [.ref a0, .int k1] sz ([(a0, .inr (9, [.int m_t.1, .int m_t.2.1, .int m_t.2.2, .ref a3, g4, g5, g6, g7, g8, g9, g10, g11, g12, g13, g14, g15, g16, g17, g18, g19, g20, g21, g22, g23, g24, g25, g26, g27, g28, g29]))]) ([]) (fun (r : Int32) _ => r = out.1) ([(a0, .inr (9, [.int out.2.1, .int out.2.2.1, .int out.2.2.2, .ref a3, g4, g5, g6, g7, g8, g9, g10, g11, g12, g13, g14, g15, g16, g17, g18, g19, g20, g21, g22, g23, g24, g25, g26, g27, g28, g29]))]) 0 0 := by
  refine Met.ofW (cc := cX12_rest) (maxL := 4) (ret := (some .int)) (by decide) rfl ?_
  intro p e s m args below meth c s₁ B0 hml hv
  obtain ⟨rfl, hsz, hP, hK, hD0, hN⟩ := hv
  have hx := B0.exec
  have hb := B0.bytes
  have hr := B0.returns
  have hts := atoms_spec (ws := vfX12_rest) B0.pre
  have hown : s.vm.findClass RX12 = some m.cls := findClass_of_methodNamed B0.named
  have hlocks := B0.notSynchronized
  subst hsz
  have hD := hD0.self (sz := s.heap.size)
  generalize hAe : va_A ([(a0, .inr (9, [.int m_t.1, .int m_t.2.1, .int m_t.2.2, .ref a3, g4, g5, g6, g7, g8, g9, g10, g11, g12, g13, g14, g15, g16, g17, g18, g19, g20, g21, g22, g23, g24, g25, g26, g27, g28, g29]))]) s.heap.size = A at hD ⊢
  have hA : ∀ q : Nat, s.heap.size ≤ q → A q := fun q h => by rw [← hAe]; exact Or.inr h
  have hS : va_S A s.heap s.heap [] := va_S.rf
  have hP : va_P (dC, dI) vwCl ([(a0, .inr (9, [.int m_t.1, .int m_t.2.1, .int m_t.2.2, .ref a3, g4, g5, g6, g7, g8, g9, g10, g11, g12, g13, g14, g15, g16, g17, g18, g19, g20, g21, g22, g23, g24, g25, g26, g27, g28, g29]))]) s.heap := hP
  have hl := lv_entry ([.ref a0, .int k1]) (n := 4) (Nat.le_of_ble_eq_true rfl)
  rw [lg_entry_eq]
  generalize (lg_sl ([.ref a0, .int k1]) ++ List.replicate (4 - (lg_sl ([.ref a0, .int k1])).length) Slot.unset).toArray = ls at hl ⊢
  have hl : lv_has ls 4 [(0, .ref a0), (1, .int k1)] := hl
  refine W_q (fun QQ hQQ => ?_)
  rw [f_X12_rest] at h
  refine lv_aload_n hx hb (zat zrX12_rest_0_ok 0 rfl) rfl (lv_at hl 0 rfl) ?_
  refine lv_iconst (v := 0) hx hb (zat zrX12_rest_0_ok 1 rfl) (by decide) ?_
  refine va_put (D := (dC, dI)) (ci := 9) (v := .int 0) (ty := .int) (C := RX12) (T := TX12) (N := 30) hx hb hts ifX12_rest_X12 tyX12 tyX12_ok nmX12 hown hK hP hD hS 0 rfl rfl 0 (by decide) (hts (.fieldLink RX12 36 "HookPierModel" "thrown" "I") (List.mem_of_getElem? (i := 1) rfl)) (fun _ h9 => h9) rfl (by decide +kernel) rfl rfl (Nat.le_of_ble_eq_true rfl) (zat zrX12_rest_0_ok 2 rfl) (fun H locs hP hD hS => ?_)
  obtain ⟨hP, hD⟩ := pd_mk ([(a0, .inr (9, [.int 0, .int m_t.2.1, .int m_t.2.2, .ref a3, g4, g5, g6, g7, g8, g9, g10, g11, g12, g13, g14, g15, g16, g17, g18, g19, g20, g21, g22, g23, g24, g25, g26, g27, g28, g29]))]) hP hD
  refine lv_aload_n hx hb (zat zrX12_rest_0_ok 3 rfl) rfl (lv_at hl 0 rfl) ?_
  refine lv_iload_n hx hb (zat zrX12_rest_0_ok 4 rfl) rfl (lv_at hl 1 rfl) ?_
  obtain ⟨o7, eo7⟩ : ∃ o, o = f_X12_refusesStock k1 := ⟨_, rfl⟩
  have h := nm_of h o7 eo7
  refine ck_i (wc := ([(a0, .inr (9, [.int 0, .int m_t.2.1, .int m_t.2.2, .ref a3, g4, g5, g6, g7, g8, g9, g10, g11, g12, g13, g14, g15, g16, g17, g18, g19, g20, g21, g22, g23, g24, g25, g26, g27, g28, g29]))])) (wr := []) hP hD hK hS hA [0] [] rfl rfl (by decide) (by decide) (by decide) (fun hPc hDc => (va_runV (As := [.int k1]) (rest := []) ⟨hx, hb, hml, hown, hts⟩ (kfX12_refusesStock l dC dI a0 k1 (.int 0) (.int m_t.2.1) (.int m_t.2.2) a3 (g4) (g5) (g6) (g7) (g8) (g9) (g10) (g11) (g12) (g13) (g14) (g15) (g16) (g17) (g18) (g19) (g20) (g21) (g22) (g23) (g24) (g25) (g26) (g27) (g28) (g29) H.size o7 eo7.symm) (cwV 1 hts gfX12_rest_0 rfl rfl rfl (by decide +kernel) ⟨(Nat.le_of_ble_eq_true rfl), (Nat.le_of_ble_eq_true rfl)⟩) (PV hPc (hK.sub (tys' := ([])) [] rfl) hDc hN 0 rfl rfl) rfl rfl hl.1 rfl (lv_room (Nat.le_of_ble_eq_true rfl)) (zat zrX12_rest_0_ok 5 rfl) ⟨(Nat.le_of_ble_eq_true rfl), (Nat.le_of_ble_eq_true rfl)⟩)) (fun r7 _ H locs hw hP hD _ hS => ?_)
  obtain rfl := hw.symm
  obtain ⟨hP, hD⟩ := pd_mk ([(a0, .inr (9, [.int 0, .int m_t.2.1, .int m_t.2.2, .ref a3, g4, g5, g6, g7, g8, g9, g10, g11, g12, g13, g14, g15, g16, g17, g18, g19, g20, g21, g22, g23, g24, g25, g26, g27, g28, g29]))]) hP hD
  refine lv_istore_n (lv' := [(2, .int o7), (0, .ref a0), (1, .int k1)]) hx hb (zat zrX12_rest_0_ok 6 rfl) rfl hl (by decide) rfl (fun ls hl => ?_)
  refine lv_iload_n hx hb (zat zrX12_rest_0_ok 7 rfl) rfl (lv_at hl 0 rfl) ?_
  refine lv_if_le (tgt := 21) hx hb (zat zrX12_rest_0_ok 8 rfl) (by decide) (fun c12 => ?_) (fun c12 => ?_)
  · have h := (if_pos c12).symm.trans h
    refine lv_iconst (v := 0) hx hb (zat zrX12_rest_0_ok 13 rfl) (by decide) ?_
    refine lv_istore_n (lv' := [(3, .int 0), (2, .int o7), (0, .ref a0), (1, .int k1)]) hx hb (zat zrX12_rest_0_ok 14 rfl) rfl hl (by decide) rfl (fun ls hl => ?_)
    have L23 : ∀ (n23 : Nat) (v23_l3 : Int32) (H : Heap) (locs : List Loc) (ls : Array Slot), f_X12_rest_L23 k1 m_t n23 v23_l3 = some out → va_P (dC, dI) vwCl ([(a0, .inr (9, [.int 0, .int m_t.2.1, .int m_t.2.2, .ref a3, g4, g5, g6, g7, g8, g9, g10, g11, g12, g13, g14, g15, g16, g17, g18, g19, g20, g21, g22, g23, g24, g25, g26, g27, g28, g29]))]) H → va_D A ([(a0, .inr (9, [.int 0, .int m_t.2.1, .int m_t.2.2, .ref a3, g4, g5, g6, g7, g8, g9, g10, g11, g12, g13, g14, g15, g16, g17, g18, g19, g20, g21, g22, g23, g24, g25, g26, g27, g28, g29]))]) → va_S A s.heap H locs → lv_has ls 4 [(3, .int v23_l3), (0, .ref a0), (1, .int k1)] → W p l e (headSpec vfX12_rest { frames := 2, cells := 0, slots := 0, locals := 45 }).room s m ([.ref a0, .int k1]).toArray below meth c H locs 0 0 QQ (F0 m 23 ls []) := by
      intro n23
      induction n23 with
      | zero =>
        intro v23_l3 H locs ls h  _ _ _ _
        rw [f_X12_rest_L23] at h
        cases h
      | succ n23 ih23 =>
        intro v23_l3 H locs ls h  hP hD hS hl
        rw [f_X12_rest_L23] at h
        refine lv_iload_n hx hb (zat zrX12_rest_0_ok 15 rfl) rfl (lv_at hl 0 rfl) ?_
        refine lv_bipush (v := 49) hx hb (zat zrX12_rest_0_ok 16 rfl) (by decide) ?_
        refine lv_icmp_ge (tgt := 67) hx hb (zat zrX12_rest_0_ok 17 rfl) (by decide) (fun c26 => ?_) (fun c26 => ?_)
        · have h := (if_pos c26).symm.trans h
          refine lv_aload_n hx hb (zat zrX12_rest_0_ok 41 rfl) rfl (lv_at hl 1 rfl) ?_
          refine lv_bipush (v := (-2)) hx hb (zat zrX12_rest_0_ok 42 rfl) (by decide) ?_
          obtain ⟨o70, eo70⟩ : ∃ o, o = f_X12_good (-2 : Int32) ((0 : Int32), m_t.2) := ⟨_, rfl⟩
          have h := nm_of h o70 eo70
          refine ck_i (wc := ([(a0, .inr (9, [.int 0, .int m_t.2.1, .int m_t.2.2, .ref a3, g4, g5, g6, g7, g8, g9, g10, g11, g12, g13, g14, g15, g16, g17, g18, g19, g20, g21, g22, g23, g24, g25, g26, g27, g28, g29]))])) (wr := []) hP hD hK hS hA [0] [] rfl rfl (by decide) (by decide) (by decide) (fun hPc hDc => (va_runV (As := [.int (-2)]) (rest := []) ⟨hx, hb, hml, hown, hts⟩ (kfX12_good l dC dI a0 (-2 : Int32) ((0 : Int32), m_t.2) (.ref a3) (g4) (g5) (g6) (g7) (g8) (g9) (g10) (g11) (g12) (g13) (g14) (g15) (g16) (g17) (g18) (g19) (g20) (g21) (g22) (g23) (g24) (g25) (g26) (g27) (g28) (g29) H.size o70 eo70.symm) (cwV 1 hts gfX12_rest_1 rfl rfl rfl (by decide +kernel) ⟨(Nat.le_of_ble_eq_true rfl), (Nat.le_of_ble_eq_true rfl)⟩) (PV hPc (hK.sub (tys' := ([])) [] rfl) hDc hN 0 rfl rfl) rfl rfl hl.1 rfl (lv_room (Nat.le_of_ble_eq_true rfl)) (zat zrX12_rest_0_ok 43 rfl) ⟨(Nat.le_of_ble_eq_true rfl), (Nat.le_of_ble_eq_true rfl)⟩)) (fun r70 _ H locs hw hP hD _ hS => ?_)
          obtain rfl := hw
          obtain ⟨hP, hD⟩ := pd_mk ([(a0, .inr (9, [.int o70.2.1, .int o70.2.2.1, .int o70.2.2.2, .ref a3, g4, g5, g6, g7, g8, g9, g10, g11, g12, g13, g14, g15, g16, g17, g18, g19, g20, g21, g22, g23, g24, g25, g26, g27, g28, g29]))]) hP hD
          obtain rfl := Option.some.inj h
          obtain ⟨hP9, hD9⟩ := pd_sub ([(a0, .inr (9, [.int o70.2.1, .int o70.2.2.1, .int o70.2.2.2, .ref a3, g4, g5, g6, g7, g8, g9, g10, g11, g12, g13, g14, g15, g16, g17, g18, g19, g20, g21, g22, g23, g24, g25, g26, g27, g28, g29]))]) [0] hP hD (by decide) rfl
          have hK9 := hK.sub (tys' := []) [] rfl
          rw [hQQ]
          exact W.iret (v := o70.1) hx hb hr (fun t ht hW => ⟨⟨o70.1, (), rfl, rfl, by rw [ht]; exact hP9, va_K.moved hW.alike hK9, hD9⟩, hS.F ht⟩) hS.2.2 (zat zrX12_rest_0_ok 44 rfl)
        · have h := (if_neg c26).symm.trans h
          refine lv_iload_n hx hb (zat zrX12_rest_0_ok 18 rfl) rfl (lv_at hl 2 rfl) ?_
          refine lv_iload_n hx hb (zat zrX12_rest_0_ok 19 rfl) rfl (lv_at hl 0 rfl) ?_
          refine lv_bipush (v := 7) hx hb (zat zrX12_rest_0_ok 20 rfl) (by decide) ?_
          refine lv_idiv hx hb (zat zrX12_rest_0_ok 21 rfl) (by decide) ?_
          refine lv_iload_n hx hb (zat zrX12_rest_0_ok 22 rfl) rfl (lv_at hl 0 rfl) ?_
          refine lv_bipush (v := 7) hx hb (zat zrX12_rest_0_ok 23 rfl) (by decide) ?_
          refine lv_irem hx hb (zat zrX12_rest_0_ok 24 rfl) (by decide) ?_
          obtain ⟨o38, eo38, h⟩ := bd_of h
          refine ck_i (wc := []) (wr := ([(a0, .inr (9, [.int 0, .int m_t.2.1, .int m_t.2.2, .ref a3, g4, g5, g6, g7, g8, g9, g10, g11, g12, g13, g14, g15, g16, g17, g18, g19, g20, g21, g22, g23, g24, g25, g26, g27, g28, g29]))])) hP hD hK hS hA [] [0] rfl rfl (by decide) (by decide) (by decide) (fun hPc hDc => (va_runS (As := [.int k1, .int (v23_l3 / (7 : Int32)), .int (v23_l3 - v23_l3 / (7 : Int32) * (7 : Int32))]) (rest := []) ⟨hx, hb, hml, hown, hts⟩ (kfX12_isRest l dC dI k1 (v23_l3 / (7 : Int32)) (v23_l3 - v23_l3 / (7 : Int32) * (7 : Int32)) H.size o38 eo38) (va_cwS 3 hts gfX12_rest_2 rfl rfl rfl (by decide +kernel) ⟨(Nat.le_of_ble_eq_true rfl), (Nat.le_of_ble_eq_true rfl)⟩) (PS hPc (hK.sub (tys' := ([])) [] rfl) hDc hN) rfl rfl hl.1 rfl (lv_room (Nat.le_of_ble_eq_true rfl)) (zat zrX12_rest_0_ok 25 rfl) ⟨(Nat.le_of_ble_eq_true rfl), (Nat.le_of_ble_eq_true rfl)⟩)) (fun r38 _ H locs hw hP hD _ hS => ?_)
          obtain ⟨hw, br38⟩ := hw
          obtain rfl := hw.symm
          obtain ⟨hP, hD⟩ := pd_mk ([(a0, .inr (9, [.int 0, .int m_t.2.1, .int m_t.2.2, .ref a3, g4, g5, g6, g7, g8, g9, g10, g11, g12, g13, g14, g15, g16, g17, g18, g19, g20, g21, g22, g23, g24, g25, g26, g27, g28, g29]))]) hP hD
          refine lv_if_eq (tgt := 61) hx hb (zat zrX12_rest_0_ok 26 rfl) (by decide) (fun c41 => ?_) (fun c41 => ?_)
          · have h := (if_pos c41).symm.trans h
            refine lv_iinc (v := (v23_l3 + (1 : Int32))) (lv' := [(3, .int (v23_l3 + (1 : Int32))), (0, .ref a0), (1, .int k1)]) hx hb (zat zrX12_rest_0_ok 39 rfl) hl (k := 0) rfl rfl (by decide) rfl (fun ls hl => ?_)
            refine lv_goto (tgt := 23) hx hb (zat zrX12_rest_0_ok 40 rfl) (by decide) ?_
            exact ih23 (v23_l3 + (1 : Int32)) H _ ls h  hP hD hS (lv_sub hl [0, 1, 2] rfl)
          · have h := (if_neg c41).symm.trans h
            refine lv_aload_n hx hb (zat zrX12_rest_0_ok 27 rfl) rfl (lv_at hl 1 rfl) ?_
            refine lv_bipush (v := 10) hx hb (zat zrX12_rest_0_ok 28 rfl) (by decide) ?_
            refine lv_iload_n hx hb (zat zrX12_rest_0_ok 29 rfl) rfl (lv_at hl 0 rfl) ?_
            refine lv_bipush (v := 7) hx hb (zat zrX12_rest_0_ok 30 rfl) (by decide) ?_
            refine lv_idiv hx hb (zat zrX12_rest_0_ok 31 rfl) (by decide) ?_
            refine lv_imul hx hb (zat zrX12_rest_0_ok 32 rfl) ?_
            refine lv_iload_n hx hb (zat zrX12_rest_0_ok 33 rfl) rfl (lv_at hl 0 rfl) ?_
            refine lv_bipush (v := 7) hx hb (zat zrX12_rest_0_ok 34 rfl) (by decide) ?_
            refine lv_irem hx hb (zat zrX12_rest_0_ok 35 rfl) (by decide) ?_
            refine lv_iadd hx hb (zat zrX12_rest_0_ok 36 rfl) ?_
            refine lv_topi (fun z56 ez56 => ?_)
            have h := nm_of h z56 ez56
            obtain ⟨o57, eo57⟩ : ∃ o, o = f_X12_good z56 ((0 : Int32), m_t.2) := ⟨_, rfl⟩
            have h := nm_of h o57 eo57
            refine ck_i (wc := ([(a0, .inr (9, [.int 0, .int m_t.2.1, .int m_t.2.2, .ref a3, g4, g5, g6, g7, g8, g9, g10, g11, g12, g13, g14, g15, g16, g17, g18, g19, g20, g21, g22, g23, g24, g25, g26, g27, g28, g29]))])) (wr := []) hP hD hK hS hA [0] [] rfl rfl (by decide) (by decide) (by decide) (fun hPc hDc => (va_runV (As := [.int z56]) (rest := []) ⟨hx, hb, hml, hown, hts⟩ (kfX12_good l dC dI a0 z56 ((0 : Int32), m_t.2) (.ref a3) (g4) (g5) (g6) (g7) (g8) (g9) (g10) (g11) (g12) (g13) (g14) (g15) (g16) (g17) (g18) (g19) (g20) (g21) (g22) (g23) (g24) (g25) (g26) (g27) (g28) (g29) H.size o57 eo57.symm) (cwV 1 hts gfX12_rest_1 rfl rfl rfl (by decide +kernel) ⟨(Nat.le_of_ble_eq_true rfl), (Nat.le_of_ble_eq_true rfl)⟩) (PV hPc (hK.sub (tys' := ([])) [] rfl) hDc hN 0 rfl rfl) rfl rfl hl.1 rfl (lv_room (Nat.le_of_ble_eq_true rfl)) (zat zrX12_rest_0_ok 37 rfl) ⟨(Nat.le_of_ble_eq_true rfl), (Nat.le_of_ble_eq_true rfl)⟩)) (fun r57 _ H locs hw hP hD _ hS => ?_)
            obtain rfl := hw
            obtain ⟨hP, hD⟩ := pd_mk ([(a0, .inr (9, [.int o57.2.1, .int o57.2.2.1, .int o57.2.2.2, .ref a3, g4, g5, g6, g7, g8, g9, g10, g11, g12, g13, g14, g15, g16, g17, g18, g19, g20, g21, g22, g23, g24, g25, g26, g27, g28, g29]))]) hP hD
            obtain rfl := Option.some.inj h
            obtain ⟨hP9, hD9⟩ := pd_sub ([(a0, .inr (9, [.int o57.2.1, .int o57.2.2.1, .int o57.2.2.2, .ref a3, g4, g5, g6, g7, g8, g9, g10, g11, g12, g13, g14, g15, g16, g17, g18, g19, g20, g21, g22, g23, g24, g25, g26, g27, g28, g29]))]) [0] hP hD (by decide) rfl
            have hK9 := hK.sub (tys' := []) [] rfl
            rw [hQQ]
            exact W.iret (v := o57.1) hx hb hr (fun t ht hW => ⟨⟨o57.1, (), rfl, rfl, by rw [ht]; exact hP9, va_K.moved hW.alike hK9, hD9⟩, hS.F ht⟩) hS.2.2 (zat zrX12_rest_0_ok 38 rfl)
    exact L23 FU (0 : Int32) H _ ls h  hP hD hS (lv_sub hl [0, 2, 3] rfl)
  · have h := (if_neg c12).symm.trans h
    refine lv_aload_n hx hb (zat zrX12_rest_0_ok 9 rfl) rfl (lv_at hl 1 rfl) ?_
    refine lv_iload_n hx hb (zat zrX12_rest_0_ok 10 rfl) rfl (lv_at hl 0 rfl) ?_
    obtain ⟨o17, eo17⟩ : ∃ o, o = f_X12_refused o7 ((0 : Int32), m_t.2) := ⟨_, rfl⟩
    have h := nm_of h o17 eo17
    refine ck_i (wc := ([(a0, .inr (9, [.int 0, .int m_t.2.1, .int m_t.2.2, .ref a3, g4, g5, g6, g7, g8, g9, g10, g11, g12, g13, g14, g15, g16, g17, g18, g19, g20, g21, g22, g23, g24, g25, g26, g27, g28, g29]))])) (wr := []) hP hD hK hS hA [0] [] rfl rfl (by decide) (by decide) (by decide) (fun hPc hDc => (va_runV (As := [.int o7]) (rest := []) ⟨hx, hb, hml, hown, hts⟩ (kfX12_refused l dC dI a0 o7 ((0 : Int32), m_t.2) (.ref a3) (g4) (g5) (g6) (g7) (g8) (g9) (g10) (g11) (g12) (g13) (g14) (g15) (g16) (g17) (g18) (g19) (g20) (g21) (g22) (g23) (g24) (g25) (g26) (g27) (g28) (g29) H.size o17 eo17.symm) (cwV 1 hts gfX12_rest_3 rfl rfl rfl (by decide +kernel) ⟨(Nat.le_of_ble_eq_true rfl), (Nat.le_of_ble_eq_true rfl)⟩) (PV hPc (hK.sub (tys' := ([])) [] rfl) hDc hN 0 rfl rfl) rfl rfl hl.1 rfl (lv_room (Nat.le_of_ble_eq_true rfl)) (zat zrX12_rest_0_ok 11 rfl) ⟨(Nat.le_of_ble_eq_true rfl), (Nat.le_of_ble_eq_true rfl)⟩)) (fun r17 _ H locs hw hP hD _ hS => ?_)
    obtain rfl := hw
    obtain ⟨hP, hD⟩ := pd_mk ([(a0, .inr (9, [.int o17.1, .int o17.2.1, .int o17.2.2, .ref a3, g4, g5, g6, g7, g8, g9, g10, g11, g12, g13, g14, g15, g16, g17, g18, g19, g20, g21, g22, g23, g24, g25, g26, g27, g28, g29]))]) hP hD
    obtain rfl := Option.some.inj h
    obtain ⟨hP9, hD9⟩ := pd_sub ([(a0, .inr (9, [.int o17.1, .int o17.2.1, .int o17.2.2, .ref a3, g4, g5, g6, g7, g8, g9, g10, g11, g12, g13, g14, g15, g16, g17, g18, g19, g20, g21, g22, g23, g24, g25, g26, g27, g28, g29]))]) [0] hP hD (by decide) rfl
    have hK9 := hK.sub (tys' := []) [] rfl
    rw [hQQ]
    exact W.iret (v := (-1 : Int32)) hx hb hr (fun t ht hW => ⟨⟨(-1 : Int32), (), rfl, rfl, by rw [ht]; exact hP9, va_K.moved hW.alike hK9, hD9⟩, hS.F ht⟩) hS.2.2 (zat zrX12_rest_0_ok 12 rfl)
noncomputable def zrX12_refusesDays_0 : List ZR := zc 0 true (.iload_n 1) 1 (zc 1 true (.ifCond .ne 7) 3 (zc 4 true (.iconst 1) 1 (zc 5 true (.goto 29) 3 (zc 8 true (.iload_n 2) 1 (zc 9 true (.iconst 0) 1 (zc 10 true (.ldc_w 489) 3 (zc 13 true (.invokestatic 115) 3 (zc 16 true (.ifCond .eq 17) 3 (zc 19 true (.iload_n 3) 1 (zc 20 true (.iconst 0) 1 (zc 21 true (.bipush 60) 2 (zc 23 true (.invokestatic 115) 3 (zc 26 true (.ifCond .eq 7) 3 (zc 29 true (.iconst 0) 1 (zc 30 true (.goto 4) 3 (zc 33 true (.iconst 2) 1 (zc 34 true (.ireturn) 1 ([]))))))))))))))))))
theorem zrX12_refusesDays_0_ok : zck 0 ((zby cX12_refusesDays).drop 0) zrX12_refusesDays_0 = true := by decide +kernel
def vfX12_refusesDays : List Cond := List.cons (.code yX12_refusesDays cX12_refusesDays 4 (some .int)) (apW [.constant RX12 489 (65536), .methodLink RX12 115 yX12_in, .static yX12_in, .initialized RX12] (vfX12_in))
theorem qfX12_refusesDays : Good vfX12_refusesDays := gd_cons (by decide +kernel) (gd_app (gd_dec (by decide +kernel) : Good [.constant RX12 489 (65536), .methodLink RX12 115 yX12_in, .static yX12_in, .initialized RX12]) qfX12_in)
theorem gfX12_refusesDays_0 : GoodIn vfX12_refusesDays (va_wsS RX12 115 yX12_in vfX12_in) := goodIn_app (goodIn_r [.methodLink RX12 115 yX12_in, .static yX12_in, .initialized RX12] [2, 3, 4] rfl (by decide +kernel)) (goodIn_m (fun _ h => (List.mem_cons_of_mem _ (List.mem_append_right _ h))) qfX12_in)
set_option maxHeartbeats 2000000 in
set_option maxRecDepth 100000 in
theorem kfX12_refusesDays (l : Launch) (dC : Nat → ClassId) (dI : Nat → Nat → Nat) (a0 : Nat) (k1 : Int32) (k2 : Int32) (k3 : Int32) (g4 : Value) (g5 : Value) (g6 : Value) (g7 : Value) (g8 : Value) (g9 : Value) (g10 : Value) (g11 : Value) (g12 : Value) (g13 : Value) (g14 : Value) (g15 : Value) (g16 : Value) (g17 : Value) (g18 : Value) (g19 : Value) (g20 : Value) (g21 : Value) (g22 : Value) (g23 : Value) (g24 : Value) (g25 : Value) (g26 : Value) (g27 : Value) (g28 : Value) (g29 : Value) (g30 : Value) (g31 : Value) (g32 : Value) (g33 : Value) (sz : Nat) (out : Int32) (h : f_X12_refusesDays k1 k2 k3 = out) : KDi l yX12_refusesDays vfX12_refusesDays ({ frames := 1, cells := 0, slots := 0, locals := 22 }) (dC, dI) [.ref a0, .int k1, .int k2, .int k3] sz ([(a0, .inr (9, [g4, g5, g6, g7, g8, g9, g10, g11, g12, g13, g14, g15, g16, g17, g18, g19, g20, g21, g22, g23, g24, g25, g26, g27, g28, g29, g30, g31, g32, g33]))]) ([]) (fun (r : Int32) _ => r = out) 0 0 := by
  refine Met.ofW (cc := cX12_refusesDays) (maxL := 4) (ret := (some .int)) (by decide) rfl ?_
  intro p e s m args below meth c s₁ B0 hml hv
  obtain ⟨rfl, hsz, hP, hK, hD0, hN⟩ := hv
  have hx := B0.exec
  have hb := B0.bytes
  have hr := B0.returns
  have hts := atoms_spec (ws := vfX12_refusesDays) B0.pre
  have hown : s.vm.findClass RX12 = some m.cls := findClass_of_methodNamed B0.named
  have hlocks := B0.notSynchronized
  subst hsz
  have hD := hD0.self (sz := s.heap.size)
  generalize hAe : va_A ([(a0, .inr (9, [g4, g5, g6, g7, g8, g9, g10, g11, g12, g13, g14, g15, g16, g17, g18, g19, g20, g21, g22, g23, g24, g25, g26, g27, g28, g29, g30, g31, g32, g33]))]) s.heap.size = A at hD ⊢
  have hA : ∀ q : Nat, s.heap.size ≤ q → A q := fun q h => by rw [← hAe]; exact Or.inr h
  have hS : va_S A s.heap s.heap [] := va_S.rf
  have hP : va_P (dC, dI) vwCl ([(a0, .inr (9, [g4, g5, g6, g7, g8, g9, g10, g11, g12, g13, g14, g15, g16, g17, g18, g19, g20, g21, g22, g23, g24, g25, g26, g27, g28, g29, g30, g31, g32, g33]))]) s.heap := hP
  have hl := lv_entry ([.ref a0, .int k1, .int k2, .int k3]) (n := 4) (Nat.le_of_ble_eq_true rfl)
  rw [lg_entry_eq]
  generalize (lg_sl ([.ref a0, .int k1, .int k2, .int k3]) ++ List.replicate (4 - (lg_sl ([.ref a0, .int k1, .int k2, .int k3])).length) Slot.unset).toArray = ls at hl ⊢
  have hl : lv_has ls 4 [(0, .ref a0), (1, .int k1), (2, .int k2), (3, .int k3)] := hl
  refine W_q (fun QQ hQQ => ?_)
  rw [f_X12_refusesDays] at h
  refine lv_iload_n hx hb (zat zrX12_refusesDays_0_ok 0 rfl) rfl (lv_at hl 1 rfl) ?_
  refine lv_if_ne (tgt := 8) hx hb (zat zrX12_refusesDays_0_ok 1 rfl) (by decide) (fun c1 => ?_) (fun c1 => ?_)
  · have h := (if_neg c1).symm.trans h
    refine lv_iload_n hx hb (zat zrX12_refusesDays_0_ok 4 rfl) rfl (lv_at hl 2 rfl) ?_
    refine lv_iconst (v := 0) hx hb (zat zrX12_refusesDays_0_ok 5 rfl) (by decide) ?_
    refine lv_ldcw hx hb hown (hts (.constant RX12 489 (65536)) (List.mem_of_getElem? (i := 1) rfl)) (zat zrX12_refusesDays_0_ok 6 rfl) ?_
    obtain ⟨o13, eo13⟩ : ∃ o, o = f_X12_in k2 (0 : Int32) (65536 : Int32) := ⟨_, rfl⟩
    have h := nm_of h o13 eo13
    refine ck_i (wc := []) (wr := ([(a0, .inr (9, [g4, g5, g6, g7, g8, g9, g10, g11, g12, g13, g14, g15, g16, g17, g18, g19, g20, g21, g22, g23, g24, g25, g26, g27, g28, g29, g30, g31, g32, g33]))])) hP hD hK hS hA [] [0] rfl rfl (by decide) (by decide) (by decide) (fun hPc hDc => (va_runS (As := [.int k2, .int 0, .int 65536]) (rest := []) ⟨hx, hb, hml, hown, hts⟩ (kfX12_in l dC dI k2 (0 : Int32) (65536 : Int32) s.heap.size o13 eo13.symm) (va_cwS 3 hts gfX12_refusesDays_0 rfl rfl rfl (by decide +kernel) ⟨(Nat.le_of_ble_eq_true rfl), (Nat.le_of_ble_eq_true rfl)⟩) (PS hPc (hK.sub (tys' := ([])) [] rfl) hDc hN) rfl rfl hl.1 rfl (lv_room (Nat.le_of_ble_eq_true rfl)) (zat zrX12_refusesDays_0_ok 7 rfl) ⟨(Nat.le_of_ble_eq_true rfl), (Nat.le_of_ble_eq_true rfl)⟩)) (fun r13 _ H locs hw hP hD _ hS => ?_)
    obtain ⟨hw, br13⟩ := hw
    obtain rfl := hw.symm
    obtain ⟨hP, hD⟩ := pd_mk ([(a0, .inr (9, [g4, g5, g6, g7, g8, g9, g10, g11, g12, g13, g14, g15, g16, g17, g18, g19, g20, g21, g22, g23, g24, g25, g26, g27, g28, g29, g30, g31, g32, g33]))]) hP hD
    refine lv_if_eq (tgt := 33) hx hb (zat zrX12_refusesDays_0_ok 8 rfl) (by decide) (fun c16 => ?_) (fun c16 => ?_)
    · have h := (if_pos c16).symm.trans h
      refine lv_iconst (v := 2) hx hb (zat zrX12_refusesDays_0_ok 16 rfl) (by decide) ?_
      obtain rfl := h
      obtain ⟨hP9, hD9⟩ := pd_sub ([(a0, .inr (9, [g4, g5, g6, g7, g8, g9, g10, g11, g12, g13, g14, g15, g16, g17, g18, g19, g20, g21, g22, g23, g24, g25, g26, g27, g28, g29, g30, g31, g32, g33]))]) [0] hP hD (by decide) rfl
      have hK9 := hK.sub (tys' := []) [] rfl
      rw [hQQ]
      exact W.iret (v := (2 : Int32)) hx hb hr (fun t ht hW => ⟨⟨(2 : Int32), (), rfl, rfl, by rw [ht]; exact hP9, va_K.moved hW.alike hK9, hD9⟩, hS.F ht⟩) hS.2.2 (zat zrX12_refusesDays_0_ok 17 rfl)
    · have h := (if_neg c16).symm.trans h
      refine lv_iload_n hx hb (zat zrX12_refusesDays_0_ok 9 rfl) rfl (lv_at hl 3 rfl) ?_
      refine lv_iconst (v := 0) hx hb (zat zrX12_refusesDays_0_ok 10 rfl) (by decide) ?_
      refine lv_bipush (v := 60) hx hb (zat zrX12_refusesDays_0_ok 11 rfl) (by decide) ?_
      obtain ⟨o23, eo23⟩ : ∃ o, o = f_X12_in k3 (0 : Int32) (60 : Int32) := ⟨_, rfl⟩
      have h := nm_of h o23 eo23
      refine ck_i (wc := []) (wr := ([(a0, .inr (9, [g4, g5, g6, g7, g8, g9, g10, g11, g12, g13, g14, g15, g16, g17, g18, g19, g20, g21, g22, g23, g24, g25, g26, g27, g28, g29, g30, g31, g32, g33]))])) hP hD hK hS hA [] [0] rfl rfl (by decide) (by decide) (by decide) (fun hPc hDc => (va_runS (As := [.int k3, .int 0, .int 60]) (rest := []) ⟨hx, hb, hml, hown, hts⟩ (kfX12_in l dC dI k3 (0 : Int32) (60 : Int32) H.size o23 eo23.symm) (va_cwS 3 hts gfX12_refusesDays_0 rfl rfl rfl (by decide +kernel) ⟨(Nat.le_of_ble_eq_true rfl), (Nat.le_of_ble_eq_true rfl)⟩) (PS hPc (hK.sub (tys' := ([])) [] rfl) hDc hN) rfl rfl hl.1 rfl (lv_room (Nat.le_of_ble_eq_true rfl)) (zat zrX12_refusesDays_0_ok 12 rfl) ⟨(Nat.le_of_ble_eq_true rfl), (Nat.le_of_ble_eq_true rfl)⟩)) (fun r23 _ H locs hw hP hD _ hS => ?_)
      obtain ⟨hw, br23⟩ := hw
      obtain rfl := hw.symm
      obtain ⟨hP, hD⟩ := pd_mk ([(a0, .inr (9, [g4, g5, g6, g7, g8, g9, g10, g11, g12, g13, g14, g15, g16, g17, g18, g19, g20, g21, g22, g23, g24, g25, g26, g27, g28, g29, g30, g31, g32, g33]))]) hP hD
      refine lv_if_eq (tgt := 33) hx hb (zat zrX12_refusesDays_0_ok 13 rfl) (by decide) (fun c26 => ?_) (fun c26 => ?_)
      · have h := (if_pos c26).symm.trans h
        refine lv_iconst (v := 2) hx hb (zat zrX12_refusesDays_0_ok 16 rfl) (by decide) ?_
        obtain rfl := h
        obtain ⟨hP9, hD9⟩ := pd_sub ([(a0, .inr (9, [g4, g5, g6, g7, g8, g9, g10, g11, g12, g13, g14, g15, g16, g17, g18, g19, g20, g21, g22, g23, g24, g25, g26, g27, g28, g29, g30, g31, g32, g33]))]) [0] hP hD (by decide) rfl
        have hK9 := hK.sub (tys' := []) [] rfl
        rw [hQQ]
        exact W.iret (v := (2 : Int32)) hx hb hr (fun t ht hW => ⟨⟨(2 : Int32), (), rfl, rfl, by rw [ht]; exact hP9, va_K.moved hW.alike hK9, hD9⟩, hS.F ht⟩) hS.2.2 (zat zrX12_refusesDays_0_ok 17 rfl)
      · have h := (if_neg c26).symm.trans h
        refine lv_iconst (v := 0) hx hb (zat zrX12_refusesDays_0_ok 14 rfl) (by decide) ?_
        refine lv_goto (tgt := 34) hx hb (zat zrX12_refusesDays_0_ok 15 rfl) (by decide) ?_
        obtain rfl := h
        obtain ⟨hP9, hD9⟩ := pd_sub ([(a0, .inr (9, [g4, g5, g6, g7, g8, g9, g10, g11, g12, g13, g14, g15, g16, g17, g18, g19, g20, g21, g22, g23, g24, g25, g26, g27, g28, g29, g30, g31, g32, g33]))]) [0] hP hD (by decide) rfl
        have hK9 := hK.sub (tys' := []) [] rfl
        rw [hQQ]
        exact W.iret (v := (0 : Int32)) hx hb hr (fun t ht hW => ⟨⟨(0 : Int32), (), rfl, rfl, by rw [ht]; exact hP9, va_K.moved hW.alike hK9, hD9⟩, hS.F ht⟩) hS.2.2 (zat zrX12_refusesDays_0_ok 17 rfl)
  · have h := (if_pos c1).symm.trans h
    refine lv_iconst (v := 1) hx hb (zat zrX12_refusesDays_0_ok 2 rfl) (by decide) ?_
    refine lv_goto (tgt := 34) hx hb (zat zrX12_refusesDays_0_ok 3 rfl) (by decide) ?_
    obtain rfl := h
    obtain ⟨hP9, hD9⟩ := pd_sub ([(a0, .inr (9, [g4, g5, g6, g7, g8, g9, g10, g11, g12, g13, g14, g15, g16, g17, g18, g19, g20, g21, g22, g23, g24, g25, g26, g27, g28, g29, g30, g31, g32, g33]))]) [0] hP hD (by decide) rfl
    have hK9 := hK.sub (tys' := []) [] rfl
    rw [hQQ]
    exact W.iret (v := (1 : Int32)) hx hb hr (fun t ht hW => ⟨⟨(1 : Int32), (), rfl, rfl, by rw [ht]; exact hP9, va_K.moved hW.alike hK9, hD9⟩, hS.F ht⟩) hS.2.2 (zat zrX12_refusesDays_0_ok 17 rfl)
noncomputable def zrX12_tries_0 : List ZR := zc 0 true (.iconst 0) 1 (zc 1 true (.istore_n 1) 1 (zc 2 true (.iload_n 1) 1 (zc 3 true (.bipush 26) 2 (zc 5 true (.if_icmp .ge 21) 3 (zc 8 true (.aload_n 0) 1 (zc 9 true (.getfield 21) 3 (zc 12 true (.iload_n 1) 1 (zc 13 true (.aload_n 0) 1 (zc 14 true (.getfield 17) 3 (zc 17 true (.iload_n 1) 1 (zc 18 true (.iaload) 1 (zc 19 true (.iastore) 1 (zc 20 true (.iinc 1 1) 3 (zc 23 true (.goto (-21)) 3 (zc 26 true (.return_) 1 ([]))))))))))))))))
theorem zrX12_tries_0_ok : zck 0 ((zby cX12_tries).drop 0) zrX12_tries_0 = true := by decide +kernel
def vfX12_tries : List Cond := List.cons (.code yX12_tries cX12_tries 2 none) (apW [.fieldLink RX12 21 "HookPierModel" "x" "[I", .fieldLink RX12 17 "HookPierModel" "v" "[I"] (wsX120))
theorem ifX12_tries_X12 : ∀ w ∈ wsX120, w ∈ vfX12_tries := fun _ h => (List.mem_cons_of_mem _ (List.mem_append_right _ h))
theorem qfX12_tries : Good vfX12_tries := gd_cons (by decide +kernel) (gd_app (gd_dec (by decide +kernel) : Good [.fieldLink RX12 21 "HookPierModel" "x" "[I", .fieldLink RX12 17 "HookPierModel" "v" "[I"]) qsX12)
set_option maxHeartbeats 2000000 in
set_option maxRecDepth 100000 in
theorem kfX12_tries (l : Launch) (dC : Nat → ClassId) (dI : Nat → Nat → Nat) (a0 : Nat) (a1 : Nat) (a2 : Nat) (m_v : TX12_v) (m_w : TX12_w) (g5 : Value) (g6 : Value) (g7 : Value) (g8 : Value) (g9 : Value) (g10 : Value) (g11 : Value) (g12 : Value) (g13 : Value) (g14 : Value) (g15 : Value) (g16 : Value) (g17 : Value) (g18 : Value) (g19 : Value) (g20 : Value) (g21 : Value) (g22 : Value) (g23 : Value) (g24 : Value) (g25 : Value) (g26 : Value) (g27 : Value) (g28 : Value) (g29 : Value) (g30 : Value) (g31 : Value) (g32 : Value) (cB33 : ClassId) (cB34 : ClassId) (sz : Nat) (out : TX12_w) (h : f_X12_tries m_v m_w = some out) : KCv l yX12_tries vfX12_tries ({ frames := 0, cells := 0, slots := 0, locals := 0 }) (dC, dI) [.ref a0] sz ([(a0, .inr (9, [g5, g6, g7, g8, g9, g10, g11, g12, g13, g14, g15, g16, g17, g18, g19, .ref a1, .ref a2, g20, g21, g22, g23, g24, g25, g26, g27, g28, g29, g30, g31, g32])), (a1, .inl (cB33, 26, .inl m_v)), (a2, .inl (cB34, 26, .inl m_w))]) ((cB33, .int) :: (cB34, .int) :: []) (fun _ => True) ([(a0, .inr (9, [g5, g6, g7, g8, g9, g10, g11, g12, g13, g14, g15, g16, g17, g18, g19, .ref a1, .ref a2, g20, g21, g22, g23, g24, g25, g26, g27, g28, g29, g30, g31, g32])), (a1, .inl (cB33, 26, .inl m_v)), (a2, .inl (cB34, 26, .inl out))]) 0 0 := by
  refine Met.ofW (cc := cX12_tries) (maxL := 2) (ret := none) (by decide) rfl ?_
  intro p e s m args below meth c s₁ B0 hml hv
  obtain ⟨rfl, hsz, hP, hK, hD0, hN⟩ := hv
  have hx := B0.exec
  have hb := B0.bytes
  have hr := B0.returns
  have hts := atoms_spec (ws := vfX12_tries) B0.pre
  have hown : s.vm.findClass RX12 = some m.cls := findClass_of_methodNamed B0.named
  have hlocks := B0.notSynchronized
  subst hsz
  have hD := hD0.self (sz := s.heap.size)
  generalize hAe : va_A ([(a0, .inr (9, [g5, g6, g7, g8, g9, g10, g11, g12, g13, g14, g15, g16, g17, g18, g19, .ref a1, .ref a2, g20, g21, g22, g23, g24, g25, g26, g27, g28, g29, g30, g31, g32])), (a1, .inl (cB33, 26, .inl m_v)), (a2, .inl (cB34, 26, .inl m_w))]) s.heap.size = A at hD ⊢
  have hA : ∀ q : Nat, s.heap.size ≤ q → A q := fun q h => by rw [← hAe]; exact Or.inr h
  have hS : va_S A s.heap s.heap [] := va_S.rf
  have hP : va_P (dC, dI) vwCl ([(a0, .inr (9, [g5, g6, g7, g8, g9, g10, g11, g12, g13, g14, g15, g16, g17, g18, g19, .ref a1, .ref a2, g20, g21, g22, g23, g24, g25, g26, g27, g28, g29, g30, g31, g32])), (a1, .inl (cB33, 26, .inl m_v)), (a2, .inl (cB34, 26, .inl m_w))]) s.heap := hP
  have hl := lv_entry ([.ref a0]) (n := 2) (Nat.le_of_ble_eq_true rfl)
  rw [lg_entry_eq]
  generalize (lg_sl ([.ref a0]) ++ List.replicate (2 - (lg_sl ([.ref a0])).length) Slot.unset).toArray = ls at hl ⊢
  have hl : lv_has ls 2 [(0, .ref a0)] := hl
  refine W_q (fun QQ hQQ => ?_)
  rw [f_X12_tries] at h
  refine lv_iconst (v := 0) hx hb (zat zrX12_tries_0_ok 0 rfl) (by decide) ?_
  refine lv_istore_n (lv' := [(1, .int 0), (0, .ref a0)]) hx hb (zat zrX12_tries_0_ok 1 rfl) rfl hl (by decide) rfl (fun ls hl => ?_)
  have L2 : ∀ (n2 : Nat) (v2_l1 : Int32) (v2_m_w : TX12_w) (H : Heap) (locs : List Loc) (ls : Array Slot), f_X12_tries_L2 m_v n2 v2_l1 v2_m_w = some out → va_P (dC, dI) vwCl ([(a0, .inr (9, [g5, g6, g7, g8, g9, g10, g11, g12, g13, g14, g15, g16, g17, g18, g19, .ref a1, .ref a2, g20, g21, g22, g23, g24, g25, g26, g27, g28, g29, g30, g31, g32])), (a1, .inl (cB33, 26, .inl m_v)), (a2, .inl (cB34, 26, .inl v2_m_w))]) H → va_D A ([(a0, .inr (9, [g5, g6, g7, g8, g9, g10, g11, g12, g13, g14, g15, g16, g17, g18, g19, .ref a1, .ref a2, g20, g21, g22, g23, g24, g25, g26, g27, g28, g29, g30, g31, g32])), (a1, .inl (cB33, 26, .inl m_v)), (a2, .inl (cB34, 26, .inl v2_m_w))]) → va_S A s.heap H locs → lv_has ls 2 [(1, .int v2_l1), (0, .ref a0)] → W p l e (headSpec vfX12_tries { frames := 0, cells := 0, slots := 0, locals := 0 }).room s m ([.ref a0]).toArray below meth c H locs 0 0 QQ (F0 m 2 ls []) := by
    intro n2
    induction n2 with
    | zero =>
      intro v2_l1 v2_m_w H locs ls h  _ _ _ _
      rw [f_X12_tries_L2] at h
      cases h
    | succ n2 ih2 =>
      intro v2_l1 v2_m_w H locs ls h  hP hD hS hl
      rw [f_X12_tries_L2] at h
      refine lv_iload_n hx hb (zat zrX12_tries_0_ok 2 rfl) rfl (lv_at hl 0 rfl) ?_
      refine lv_bipush (v := 26) hx hb (zat zrX12_tries_0_ok 3 rfl) (by decide) ?_
      refine lv_icmp_ge (tgt := 26) hx hb (zat zrX12_tries_0_ok 4 rfl) (by decide) (fun c5 => ?_) (fun c5 => ?_)
      · have h := (if_pos c5).symm.trans h
        obtain rfl := Option.some.inj h
        obtain ⟨hP9, hD9⟩ := pd_sub ([(a0, .inr (9, [g5, g6, g7, g8, g9, g10, g11, g12, g13, g14, g15, g16, g17, g18, g19, .ref a1, .ref a2, g20, g21, g22, g23, g24, g25, g26, g27, g28, g29, g30, g31, g32])), (a1, .inl (cB33, 26, .inl m_v)), (a2, .inl (cB34, 26, .inl v2_m_w))]) [0, 1, 2] hP hD (by decide) rfl
        have hK9 := hK.sub (tys' := []) [] rfl
        rw [hQQ]
        exact W.vret hx hb hr (fun t ht hW => ⟨⟨(), rfl, trivial, by rw [ht]; exact hP9, va_K.moved hW.alike hK9, hD9⟩, hS.F ht⟩) hS.2.2 (zat zrX12_tries_0_ok 15 rfl)
      · have h := (if_neg c5).symm.trans h
        refine lv_aload_n hx hb (zat zrX12_tries_0_ok 5 rfl) rfl (lv_at hl 1 rfl) ?_
        refine va_get (D := (dC, dI)) (ci := 9) (v := .ref a2) (C := RX12) (T := TX12) (N := 30) hx hb hts ifX12_tries_X12 hown hK hP 0 rfl rfl 16 (by decide) (hts (.fieldLink RX12 21 "HookPierModel" "x" "[I") (List.mem_of_getElem? (i := 1) rfl)) (fun _ h9 => h9) rfl (zat zrX12_tries_0_ok 6 rfl) ?_
        refine lv_iload_n hx hb (zat zrX12_tries_0_ok 7 rfl) rfl (lv_at hl 0 rfl) ?_
        refine lv_aload_n hx hb (zat zrX12_tries_0_ok 8 rfl) rfl (lv_at hl 1 rfl) ?_
        refine va_get (D := (dC, dI)) (ci := 9) (v := .ref a1) (C := RX12) (T := TX12) (N := 30) hx hb hts ifX12_tries_X12 hown hK hP 0 rfl rfl 15 (by decide) (hts (.fieldLink RX12 17 "HookPierModel" "v" "[I") (List.mem_of_getElem? (i := 2) rfl)) (fun _ h9 => h9) rfl (zat zrX12_tries_0_ok 9 rfl) ?_
        refine lv_iload_n hx hb (zat zrX12_tries_0_ok 10 rfl) rfl (lv_at hl 0 rfl) ?_
        obtain ⟨hg18, h⟩ := gA_of h
        refine va_iald hx hb hK hP 1 0 rfl rfl hg18 (zat zrX12_tries_0_ok 11 rfl) ?_
        obtain ⟨hg19, h⟩ := gA_of h
        refine va_iast hx hb hK hP hD hS 2 1 rfl rfl hg19 (zat zrX12_tries_0_ok 12 rfl) (fun H locs hP hD hS => ?_)
        obtain ⟨hP, hD⟩ := pd_mk ([(a0, .inr (9, [g5, g6, g7, g8, g9, g10, g11, g12, g13, g14, g15, g16, g17, g18, g19, .ref a1, .ref a2, g20, g21, g22, g23, g24, g25, g26, g27, g28, g29, g30, g31, g32])), (a1, .inl (cB33, 26, .inl m_v)), (a2, .inl (cB34, 26, .inl (upd v2_m_w (v2_l1).toNatClampNeg (m_v (v2_l1).toNatClampNeg))))]) hP hD
        refine lv_iinc (v := (v2_l1 + (1 : Int32))) (lv' := [(1, .int (v2_l1 + (1 : Int32))), (0, .ref a0)]) hx hb (zat zrX12_tries_0_ok 13 rfl) hl (k := 0) rfl rfl (by decide) rfl (fun ls hl => ?_)
        refine lv_goto (tgt := 2) hx hb (zat zrX12_tries_0_ok 14 rfl) (by decide) ?_
        exact ih2 (v2_l1 + (1 : Int32)) (upd v2_m_w (v2_l1).toNatClampNeg (m_v (v2_l1).toNatClampNeg)) H _ ls h  hP hD hS (lv_sub hl [0, 1] rfl)
  exact L2 FU (0 : Int32) m_w s.heap _ ls h  hP hD hS (lv_sub hl [0, 1] rfl)
def vfX12_isTangled_x : List Cond := List.cons (.code yX12_isTangled cX12_isTangled 4 (some .boolean)) (apW [.fieldLink RX12 299 "HookPierModel" "pier" "LHookPierModel$Pier;", .methodLink RX12 307 yX12_spotOf, .instanceMethod yX12_spotOf, .selects RX12 yX12_spotOf yX12_spotOf, .initialized RX12, .methodLink RX12 330 yX12_areTangled, .instanceMethod yX12_areTangled, .selects RX12 yX12_areTangled yX12_areTangled] (apW wsX120 (apW wsX110 (apW vfX12_spotOf (vfX12_areTangled)))))
theorem ifX12_isTangled_x_X12 : ∀ w ∈ wsX120, w ∈ vfX12_isTangled_x := fun _ h => (List.mem_cons_of_mem _ (List.mem_append_right _ (List.mem_append_left _ h)))
theorem ifX12_isTangled_x_X11 : ∀ w ∈ wsX110, w ∈ vfX12_isTangled_x := fun _ h => (List.mem_cons_of_mem _ (List.mem_append_right _ (List.mem_append_right _ (List.mem_append_left _ h))))
theorem qfX12_isTangled_x : Good vfX12_isTangled_x := gd_cons (by decide +kernel) (gd_app (gd_dec (by decide +kernel) : Good [.fieldLink RX12 299 "HookPierModel" "pier" "LHookPierModel$Pier;", .methodLink RX12 307 yX12_spotOf, .instanceMethod yX12_spotOf, .selects RX12 yX12_spotOf yX12_spotOf, .initialized RX12, .methodLink RX12 330 yX12_areTangled, .instanceMethod yX12_areTangled, .selects RX12 yX12_areTangled yX12_areTangled]) (gd_app qsX12 (gd_app qsX11 (gd_app qfX12_spotOf qfX12_areTangled))))
theorem gfX12_isTangled_x_0 : GoodIn vfX12_isTangled_x (wsV RX12 307 RX12 yX12_spotOf vfX12_spotOf) := goodIn_app (goodIn_r [.methodLink RX12 307 yX12_spotOf, .instanceMethod yX12_spotOf, .selects RX12 yX12_spotOf yX12_spotOf, .initialized RX12] [2, 3, 4, 5] rfl (by decide +kernel)) (goodIn_m (fun _ h => (List.mem_cons_of_mem _ (List.mem_append_right _ (List.mem_append_right _ (List.mem_append_right _ (List.mem_append_left _ h)))))) qfX12_spotOf)
theorem gfX12_isTangled_x_1 : GoodIn vfX12_isTangled_x (wsV RX12 330 RX12 yX12_areTangled vfX12_areTangled) := goodIn_app (goodIn_r [.methodLink RX12 330 yX12_areTangled, .instanceMethod yX12_areTangled, .selects RX12 yX12_areTangled yX12_areTangled, .initialized RX12] [6, 7, 8, 5] rfl (by decide +kernel)) (goodIn_m (fun _ h => (List.mem_cons_of_mem _ (List.mem_append_right _ (List.mem_append_right _ (List.mem_append_right _ (List.mem_append_right _ h)))))) qfX12_areTangled)
set_option maxHeartbeats 2000000 in
set_option maxRecDepth 100000 in
theorem kfX12_isTangled_x (l : Launch) (dC : Nat → ClassId) (dI : Nat → Nat → Nat) (a0 : Nat) (a1 : Nat) (k2 : Int32) (a3 : Nat) (uq : Nat → Nat) (kq : Nat → ClassId) (m_w : TX12_w) (g7 : Value) (g8 : Value) (g9 : Value) (g10 : Value) (g11 : Value) (g12 : Value) (g13 : Value) (g14 : Value) (g15 : Value) (g16 : Value) (g17 : Value) (g18 : Value) (g19 : Value) (g20 : Value) (g21 : Value) (g22 : Value) (g23 : Value) (g24 : Value) (g25 : Value) (g26 : Value) (g27 : Value) (g28 : Value) (g29 : Value) (g30 : Value) (g31 : Value) (g32 : Value) (g33 : Value) (g34 : Value) (q_q : TX11_q) (cB36 : ClassId) (sz : Nat) (out : Int32) (h : f_X12_isTangled_x k2 m_w q_q = some out) : KDi l yX12_isTangled vfX12_isTangled_x ({ frames := 2, cells := 0, slots := 0, locals := 45 }) (dC, dI) [.ref a0, .ref a1, .int k2] sz ((a0, .inr (9, [g7, g8, g9, .ref a3, g10, g11, g12, g13, g14, g15, g16, g17, g18, g19, g20, g21, .ref a1, g22, g23, g24, g25, g26, g27, g28, g29, g30, g31, g32, g33, g34])) :: bX11 a3 uq kq q_q ([(a1, .inl (cB36, 26, .inl m_w))])) (tX11 kq ((cB36, .int) :: [])) (fun (r : Int32) _ => r = out ∧ (0 ≤ r.toInt ∧ r.toInt ≤ 1)) 0 0 := by
  refine Met.ofW (cc := cX12_isTangled) (maxL := 4) (ret := (some .boolean)) (by decide) rfl ?_
  intro p e s m args below meth c s₁ B0 hml hv
  obtain ⟨rfl, hsz, hP, hK, hD0, hN⟩ := hv
  have hx := B0.exec
  have hb := B0.bytes
  have hr := B0.returns
  have hts := atoms_spec (ws := vfX12_isTangled_x) B0.pre
  have hown : s.vm.findClass RX12 = some m.cls := findClass_of_methodNamed B0.named
  have hlocks := B0.notSynchronized
  subst hsz
  have hD := hD0.self (sz := s.heap.size)
  generalize hAe : va_A ((a0, .inr (9, [g7, g8, g9, .ref a3, g10, g11, g12, g13, g14, g15, g16, g17, g18, g19, g20, g21, .ref a1, g22, g23, g24, g25, g26, g27, g28, g29, g30, g31, g32, g33, g34])) :: bX11 a3 uq kq q_q ([(a1, .inl (cB36, 26, .inl m_w))])) s.heap.size = A at hD ⊢
  have hA : ∀ q : Nat, s.heap.size ≤ q → A q := fun q h => by rw [← hAe]; exact Or.inr h
  have hS : va_S A s.heap s.heap [] := va_S.rf
  have hP : va_P (dC, dI) vwCl ((a0, .inr (9, [g7, g8, g9, .ref a3, g10, g11, g12, g13, g14, g15, g16, g17, g18, g19, g20, g21, .ref a1, g22, g23, g24, g25, g26, g27, g28, g29, g30, g31, g32, g33, g34])) :: bX11 a3 uq kq q_q ([(a1, .inl (cB36, 26, .inl m_w))])) s.heap := hP
  have hl := lv_entry ([.ref a0, .ref a1, .int k2]) (n := 4) (Nat.le_of_ble_eq_true rfl)
  rw [lg_entry_eq]
  generalize (lg_sl ([.ref a0, .ref a1, .int k2]) ++ List.replicate (4 - (lg_sl ([.ref a0, .ref a1, .int k2])).length) Slot.unset).toArray = ls at hl ⊢
  have hl : lv_has ls 4 [(0, .ref a0), (1, .ref a1), (2, .int k2)] := hl
  refine W_q (fun QQ hQQ => ?_)
  rw [f_X12_isTangled_x] at h
  refine lv_iconst (v := 0) hx hb (zat zrX12_isTangled_0_ok 0 rfl) (by decide) ?_
  refine lv_istore_n (lv' := [(3, .int 0), (0, .ref a0), (1, .ref a1), (2, .int k2)]) hx hb (zat zrX12_isTangled_0_ok 1 rfl) rfl hl (by decide) rfl (fun ls hl => ?_)
  have L2 : ∀ (n2 : Nat) (v2_l3 : Int32) (H : Heap) (locs : List Loc) (ls : Array Slot), f_X12_isTangled_x_L2 k2 m_w q_q n2 v2_l3 = some out → va_P (dC, dI) vwCl ((a0, .inr (9, [g7, g8, g9, .ref a3, g10, g11, g12, g13, g14, g15, g16, g17, g18, g19, g20, g21, .ref a1, g22, g23, g24, g25, g26, g27, g28, g29, g30, g31, g32, g33, g34])) :: bX11 a3 uq kq q_q ([(a1, .inl (cB36, 26, .inl m_w))])) H → va_D A ((a0, .inr (9, [g7, g8, g9, .ref a3, g10, g11, g12, g13, g14, g15, g16, g17, g18, g19, g20, g21, .ref a1, g22, g23, g24, g25, g26, g27, g28, g29, g30, g31, g32, g33, g34])) :: bX11 a3 uq kq q_q ([(a1, .inl (cB36, 26, .inl m_w))])) → va_S A s.heap H locs → lv_has ls 4 [(3, .int v2_l3), (0, .ref a0), (1, .ref a1), (2, .int k2)] → W p l e (headSpec vfX12_isTangled_x { frames := 2, cells := 0, slots := 0, locals := 45 }).room s m ([.ref a0, .ref a1, .int k2]).toArray below meth c H locs 0 0 QQ (F0 m 2 ls []) := by
    intro n2
    induction n2 with
    | zero =>
      intro v2_l3 H locs ls h  _ _ _ _
      rw [f_X12_isTangled_x_L2] at h
      cases h
    | succ n2 ih2 =>
      intro v2_l3 H locs ls h  hP hD hS hl
      rw [f_X12_isTangled_x_L2] at h
      refine lv_iload_n hx hb (zat zrX12_isTangled_0_ok 2 rfl) rfl (lv_at hl 0 rfl) ?_
      refine lv_aload_n hx hb (zat zrX12_isTangled_0_ok 3 rfl) rfl (lv_at hl 1 rfl) ?_
      refine va_get (D := (dC, dI)) (ci := 9) (v := .ref a3) (C := RX12) (T := TX12) (N := 30) hx hb hts ifX12_isTangled_x_X12 hown hK hP 0 rfl rfl 3 (by decide) (hts (.fieldLink RX12 299 "HookPierModel" "pier" "LHookPierModel$Pier;") (List.mem_of_getElem? (i := 1) rfl)) (fun _ h9 => h9) rfl (zat zrX12_isTangled_0_ok 4 rfl) ?_
      refine va_getN (D := (dC, dI)) (ci := 8) (v := .int q_q.2.2.2.2.2.1) (C := RX11) (T := TX11) (N := 24) hx hb hts ifX12_isTangled_x_X11 hown hK hP 1 rfl rfl 5 (by decide) (va_Nw.use rfl (hN.1 (.fieldLinkNest RX12 224 "HookPierModel$Pier" "askers" "I" "HookPierModel") (List.mem_of_getElem? (i := 27) rfl))) (fun _ h9 => h9) rfl (zat zrX12_isTangled_0_ok 5 rfl) ?_
      refine lv_icmp_ge (tgt := 66) hx hb (zat zrX12_isTangled_0_ok 6 rfl) (by decide) (fun c10 => ?_) (fun c10 => ?_)
      · have h := (if_pos c10).symm.trans h
        refine lv_iconst (v := 0) hx hb (zat zrX12_isTangled_0_ok 40 rfl) (by decide) ?_
        obtain rfl := Option.some.inj h
        obtain ⟨hP9, hD9⟩ := pd_sub ((a0, .inr (9, [g7, g8, g9, .ref a3, g10, g11, g12, g13, g14, g15, g16, g17, g18, g19, g20, g21, .ref a1, g22, g23, g24, g25, g26, g27, g28, g29, g30, g31, g32, g33, g34])) :: bX11 a3 uq kq q_q ([(a1, .inl (cB36, 26, .inl m_w))])) [0, 1, 2, 3, 4, 5, 6, 7, 8, 9, 10, 11, 12, 13, 14, 15, 16] hP hD (by decide) rfl
        have hK9 := hK.sub (tys' := []) [] rfl
        rw [hQQ]
        exact W.zret (v := (0 : Int32)) hx hb hr rfl (fun t ht hW => ⟨⟨(0 : Int32), (), rfl, ⟨rfl, (by decide)⟩, by rw [ht]; exact hP9, va_K.moved hW.alike hK9, hD9⟩, hS.F ht⟩) hS.2.2 (zat zrX12_isTangled_0_ok 41 rfl)
      · have h := (if_neg c10).symm.trans h
        refine lv_iload_n hx hb (zat zrX12_isTangled_0_ok 7 rfl) rfl (lv_at hl 0 rfl) ?_
        refine lv_iload_n hx hb (zat zrX12_isTangled_0_ok 8 rfl) rfl (lv_at hl 3 rfl) ?_
        have J60 : ∀ (H : Heap) (locs : List Loc) (ls : Array Slot), f_X12_isTangled_x_J60 (f_X12_isTangled_x_L2 k2 m_w q_q n2) v2_l3 = some out → va_P (dC, dI) vwCl ((a0, .inr (9, [g7, g8, g9, .ref a3, g10, g11, g12, g13, g14, g15, g16, g17, g18, g19, g20, g21, .ref a1, g22, g23, g24, g25, g26, g27, g28, g29, g30, g31, g32, g33, g34])) :: bX11 a3 uq kq q_q ([(a1, .inl (cB36, 26, .inl m_w))])) H → va_D A ((a0, .inr (9, [g7, g8, g9, .ref a3, g10, g11, g12, g13, g14, g15, g16, g17, g18, g19, g20, g21, .ref a1, g22, g23, g24, g25, g26, g27, g28, g29, g30, g31, g32, g33, g34])) :: bX11 a3 uq kq q_q ([(a1, .inl (cB36, 26, .inl m_w))])) → va_S A s.heap H locs → lv_has ls 4 [(3, .int v2_l3), (0, .ref a0), (1, .ref a1), (2, .int k2)] → W p l e (headSpec vfX12_isTangled_x { frames := 2, cells := 0, slots := 0, locals := 45 }).room s m ([.ref a0, .ref a1, .int k2]).toArray below meth c H locs 0 0 QQ (F0 m 60 ls []) := by
          intro  H locs ls h  hP hD hS hl
          rw [f_X12_isTangled_x_J60] at h
          refine lv_iinc (v := (v2_l3 + (1 : Int32))) (lv' := [(3, .int (v2_l3 + (1 : Int32))), (0, .ref a0), (1, .ref a1), (2, .int k2)]) hx hb (zat zrX12_isTangled_0_ok 38 rfl) hl (k := 0) rfl rfl (by decide) rfl (fun ls hl => ?_)
          refine lv_goto (tgt := 2) hx hb (zat zrX12_isTangled_0_ok 39 rfl) (by decide) ?_
          exact ih2 (v2_l3 + (1 : Int32)) H _ ls h  hP hD hS (lv_sub hl [0, 1, 2, 3] rfl)
        refine lv_icmp_eq (tgt := 60) hx hb (zat zrX12_isTangled_0_ok 9 rfl) (by decide) (fun c15 => ?_) (fun c15 => ?_)
        · have h := (if_pos c15).symm.trans h
          exact J60  H _ ls h  hP hD hS (lv_sub hl [0, 1, 2, 3] rfl)
        · have h := (if_neg c15).symm.trans h
          refine lv_aload_n hx hb (zat zrX12_isTangled_0_ok 10 rfl) rfl (lv_at hl 2 rfl) ?_
          refine lv_bipush (v := 18) hx hb (zat zrX12_isTangled_0_ok 11 rfl) (by decide) ?_
          refine lv_iload_n hx hb (zat zrX12_isTangled_0_ok 12 rfl) rfl (lv_at hl 0 rfl) ?_
          refine lv_iadd hx hb (zat zrX12_isTangled_0_ok 13 rfl) ?_
          obtain ⟨hg23, h⟩ := gA_of h
          refine va_iald hx hb hK hP 16 14 rfl rfl hg23 (zat zrX12_isTangled_0_ok 14 rfl) ?_
          refine lv_bipush (v := (-2)) hx hb (zat zrX12_isTangled_0_ok 15 rfl) (by decide) ?_
          refine lv_icmp_eq (tgt := 60) hx hb (zat zrX12_isTangled_0_ok 16 rfl) (by decide) (fun c26 => ?_) (fun c26 => ?_)
          · have h := (if_pos c26).symm.trans h
            exact J60  H _ ls h  hP hD hS (lv_sub hl [0, 1, 2, 3] rfl)
          · have h := (if_neg c26).symm.trans h
            refine lv_aload_n hx hb (zat zrX12_isTangled_0_ok 17 rfl) rfl (lv_at hl 1 rfl) ?_
            refine lv_iload_n hx hb (zat zrX12_isTangled_0_ok 18 rfl) rfl (lv_at hl 3 rfl) ?_
            refine lv_aload_n hx hb (zat zrX12_isTangled_0_ok 19 rfl) rfl (lv_at hl 1 rfl) ?_
            refine lv_aload_n hx hb (zat zrX12_isTangled_0_ok 20 rfl) rfl (lv_at hl 2 rfl) ?_
            refine lv_bipush (v := 18) hx hb (zat zrX12_isTangled_0_ok 21 rfl) (by decide) ?_
            refine lv_iload_n hx hb (zat zrX12_isTangled_0_ok 22 rfl) rfl (lv_at hl 3 rfl) ?_
            refine lv_iadd hx hb (zat zrX12_isTangled_0_ok 23 rfl) ?_
            obtain ⟨hg37, h⟩ := gA_of h
            refine va_iald hx hb hK hP 16 14 rfl rfl hg37 (zat zrX12_isTangled_0_ok 24 rfl) ?_
            obtain ⟨o38, eo38, h⟩ := bd_of h
            refine ck_i (wc := ((a0, .inr (9, [g7, g8, g9, .ref a3, g10, g11, g12, g13, g14, g15, g16, g17, g18, g19, g20, g21, .ref a1, g22, g23, g24, g25, g26, g27, g28, g29, g30, g31, g32, g33, g34])) :: bX11 a3 uq kq q_q [])) (wr := ([(a1, .inl (cB36, 26, .inl m_w))])) hP hD hK hS hA [0, 1, 2, 3, 4, 5, 6, 7, 8, 9, 10, 11, 12, 13, 14, 15] [16] rfl rfl (by decide) (by decide) (by decide) (fun hPc hDc => (va_runV (As := [.int (m_w (((18 : Int32) + k2)).toNatClampNeg)]) (rest := [.int k2, .ref a0]) ⟨hx, hb, hml, hown, hts⟩ (kfX12_spotOf l dC dI a0 (m_w (((18 : Int32) + k2)).toNatClampNeg) a3 uq kq (g7) (g8) (g9) (g10) (g11) (g12) (g13) (g14) (g15) (g16) (g17) (g18) (g19) (g20) (g21) (.ref a1) (g22) (g23) (g24) (g25) (g26) (g27) (g28) (g29) (g30) (g31) (g32) (g33) (g34) q_q H.size o38 eo38) (cwV 1 hts gfX12_isTangled_x_0 rfl rfl rfl (by decide +kernel) ⟨(Nat.le_of_ble_eq_true rfl), (Nat.le_of_ble_eq_true rfl)⟩) (PV hPc (hK.sub (tys' := (tX11 kq ([]))) [0, 1, 2, 3, 4, 5, 6, 7, 8, 9, 10, 11, 12, 13] rfl) hDc hN 0 rfl rfl) rfl rfl hl.1 rfl (lv_room (Nat.le_of_ble_eq_true rfl)) (zat zrX12_isTangled_0_ok 25 rfl) ⟨(Nat.le_of_ble_eq_true rfl), (Nat.le_of_ble_eq_true rfl)⟩)) (fun r38 _ H locs hw hP hD _ hS => ?_)
            obtain rfl := hw.symm
            obtain ⟨hP, hD⟩ := pd_mk ((a1, .inl (cB36, 26, .inl m_w)) :: (a0, .inr (9, [g7, g8, g9, .ref a3, g10, g11, g12, g13, g14, g15, g16, g17, g18, g19, g20, g21, .ref a1, g22, g23, g24, g25, g26, g27, g28, g29, g30, g31, g32, g33, g34])) :: bX11 a3 uq kq q_q []) hP hD
            refine lv_iload_n hx hb (zat zrX12_isTangled_0_ok 26 rfl) rfl (lv_at hl 0 rfl) ?_
            refine lv_aload_n hx hb (zat zrX12_isTangled_0_ok 27 rfl) rfl (lv_at hl 1 rfl) ?_
            refine lv_aload_n hx hb (zat zrX12_isTangled_0_ok 28 rfl) rfl (lv_at hl 2 rfl) ?_
            refine lv_bipush (v := 18) hx hb (zat zrX12_isTangled_0_ok 29 rfl) (by decide) ?_
            refine lv_iload_n hx hb (zat zrX12_isTangled_0_ok 30 rfl) rfl (lv_at hl 0 rfl) ?_
            refine lv_iadd hx hb (zat zrX12_isTangled_0_ok 31 rfl) ?_
            obtain ⟨hg48, h⟩ := gA_of h
            refine va_iald hx hb hK hP 0 14 rfl rfl hg48 (zat zrX12_isTangled_0_ok 32 rfl) ?_
            obtain ⟨o49, eo49, h⟩ := bd_of h
            refine ck_i (wc := ((a0, .inr (9, [g7, g8, g9, .ref a3, g10, g11, g12, g13, g14, g15, g16, g17, g18, g19, g20, g21, .ref a1, g22, g23, g24, g25, g26, g27, g28, g29, g30, g31, g32, g33, g34])) :: bX11 a3 uq kq q_q [])) (wr := ([(a1, .inl (cB36, 26, .inl m_w))])) hP hD hK hS hA [1, 2, 3, 4, 5, 6, 7, 8, 9, 10, 11, 12, 13, 14, 15, 16] [0] rfl rfl (by decide) (by decide) (by decide) (fun hPc hDc => (va_runV (As := [.int (m_w (((18 : Int32) + v2_l3)).toNatClampNeg)]) (rest := [.int v2_l3, .int o38, .int k2, .ref a0]) ⟨hx, hb, hml, hown, hts⟩ (kfX12_spotOf l dC dI a0 (m_w (((18 : Int32) + v2_l3)).toNatClampNeg) a3 uq kq (g7) (g8) (g9) (g10) (g11) (g12) (g13) (g14) (g15) (g16) (g17) (g18) (g19) (g20) (g21) (.ref a1) (g22) (g23) (g24) (g25) (g26) (g27) (g28) (g29) (g30) (g31) (g32) (g33) (g34) q_q H.size o49 eo49) (cwV 1 hts gfX12_isTangled_x_0 rfl rfl rfl (by decide +kernel) ⟨(Nat.le_of_ble_eq_true rfl), (Nat.le_of_ble_eq_true rfl)⟩) (PV hPc (hK.sub (tys' := (tX11 kq ([]))) [0, 1, 2, 3, 4, 5, 6, 7, 8, 9, 10, 11, 12, 13] rfl) hDc hN 0 rfl rfl) rfl rfl hl.1 rfl (lv_room (Nat.le_of_ble_eq_true rfl)) (zat zrX12_isTangled_0_ok 33 rfl) ⟨(Nat.le_of_ble_eq_true rfl), (Nat.le_of_ble_eq_true rfl)⟩)) (fun r49 _ H locs hw hP hD _ hS => ?_)
            obtain rfl := hw.symm
            obtain ⟨hP, hD⟩ := pd_mk ((a1, .inl (cB36, 26, .inl m_w)) :: (a0, .inr (9, [g7, g8, g9, .ref a3, g10, g11, g12, g13, g14, g15, g16, g17, g18, g19, g20, g21, .ref a1, g22, g23, g24, g25, g26, g27, g28, g29, g30, g31, g32, g33, g34])) :: bX11 a3 uq kq q_q []) hP hD
            obtain ⟨o52, eo52, h⟩ := bd_of h
            refine ck_i (wc := ((a0, .inr (9, [g7, g8, g9, .ref a3, g10, g11, g12, g13, g14, g15, g16, g17, g18, g19, g20, g21, .ref a1, g22, g23, g24, g25, g26, g27, g28, g29, g30, g31, g32, g33, g34])) :: bX11 a3 uq kq q_q [])) (wr := ([(a1, .inl (cB36, 26, .inl m_w))])) hP hD hK hS hA [1, 2, 3, 4, 5, 6, 7, 8, 9, 10, 11, 12, 13, 14, 15, 16] [0] rfl rfl (by decide) (by decide) (by decide) (fun hPc hDc => (va_runV (As := [.int k2, .int o38, .int v2_l3, .int o49]) (rest := []) ⟨hx, hb, hml, hown, hts⟩ (kfX12_areTangled l dC dI a0 k2 o38 v2_l3 o49 a3 uq kq (g7) (g8) (g9) (g10) (g11) (g12) (g13) (g14) (g15) (g16) (g17) (g18) (g19) (g20) (g21) (.ref a1) (g22) (g23) (g24) (g25) (g26) (g27) (g28) (g29) (g30) (g31) (g32) (g33) (g34) q_q H.size o52 eo52) (cwV 4 hts gfX12_isTangled_x_1 rfl rfl rfl (by decide +kernel) ⟨(Nat.le_of_ble_eq_true rfl), (Nat.le_of_ble_eq_true rfl)⟩) (PV hPc (hK.sub (tys' := (tX11 kq ([]))) [0, 1, 2, 3, 4, 5, 6, 7, 8, 9, 10, 11, 12, 13] rfl) hDc hN 0 rfl rfl) rfl rfl hl.1 rfl (lv_room (Nat.le_of_ble_eq_true rfl)) (zat zrX12_isTangled_0_ok 34 rfl) ⟨(Nat.le_of_ble_eq_true rfl), (Nat.le_of_ble_eq_true rfl)⟩)) (fun r52 _ H locs hw hP hD _ hS => ?_)
            obtain ⟨hw, br52⟩ := hw
            obtain rfl := hw.symm
            obtain ⟨hP, hD⟩ := pd_mk ((a1, .inl (cB36, 26, .inl m_w)) :: (a0, .inr (9, [g7, g8, g9, .ref a3, g10, g11, g12, g13, g14, g15, g16, g17, g18, g19, g20, g21, .ref a1, g22, g23, g24, g25, g26, g27, g28, g29, g30, g31, g32, g33, g34])) :: bX11 a3 uq kq q_q []) hP hD
            refine lv_if_eq (tgt := 60) hx hb (zat zrX12_isTangled_0_ok 35 rfl) (by decide) (fun c55 => ?_) (fun c55 => ?_)
            · have h := (if_pos c55).symm.trans h
              exact J60  H _ ls h  (hP.sub (ws' := ((a0, .inr (9, [g7, g8, g9, .ref a3, g10, g11, g12, g13, g14, g15, g16, g17, g18, g19, g20, g21, .ref a1, g22, g23, g24, g25, g26, g27, g28, g29, g30, g31, g32, g33, g34])) :: bX11 a3 uq kq q_q ([(a1, .inl (cB36, 26, .inl m_w))]))) [1, 2, 3, 4, 5, 6, 7, 8, 9, 10, 11, 12, 13, 14, 15, 16, 0] rfl) (hD.sub (ws' := ((a0, .inr (9, [g7, g8, g9, .ref a3, g10, g11, g12, g13, g14, g15, g16, g17, g18, g19, g20, g21, .ref a1, g22, g23, g24, g25, g26, g27, g28, g29, g30, g31, g32, g33, g34])) :: bX11 a3 uq kq q_q ([(a1, .inl (cB36, 26, .inl m_w))]))) [1, 2, 3, 4, 5, 6, 7, 8, 9, 10, 11, 12, 13, 14, 15, 16, 0] (by decide) rfl) hS (lv_sub hl [0, 1, 2, 3] rfl)
            · have h := (if_neg c55).symm.trans h
              refine lv_iconst (v := 1) hx hb (zat zrX12_isTangled_0_ok 36 rfl) (by decide) ?_
              obtain rfl := Option.some.inj h
              obtain ⟨hP9, hD9⟩ := pd_sub ((a0, .inr (9, [g7, g8, g9, .ref a3, g10, g11, g12, g13, g14, g15, g16, g17, g18, g19, g20, g21, .ref a1, g22, g23, g24, g25, g26, g27, g28, g29, g30, g31, g32, g33, g34])) :: bX11 a3 uq kq q_q ([(a1, .inl (cB36, 26, .inl m_w))])) [1, 2, 3, 4, 5, 6, 7, 8, 9, 10, 11, 12, 13, 14, 15, 16, 0] hP hD (by decide) rfl
              have hK9 := hK.sub (tys' := []) [] rfl
              rw [hQQ]
              exact W.zret (v := (1 : Int32)) hx hb hr rfl (fun t ht hW => ⟨⟨(1 : Int32), (), rfl, ⟨rfl, (by decide)⟩, by rw [ht]; exact hP9, va_K.moved hW.alike hK9, hD9⟩, hS.F ht⟩) hS.2.2 (zat zrX12_isTangled_0_ok 37 rfl)
  exact L2 FU (0 : Int32) s.heap _ ls h  hP hD hS (lv_sub hl [0, 1, 2, 3] rfl)
def vfX12_taker_x : List Cond := List.cons (.code yX12_taker cX12_taker 4 (some .int)) (apW [.fieldLink RX12 299 "HookPierModel" "pier" "LHookPierModel$Pier;", .constantLong RX12 463 (75), .constantLong RX12 465 (74), .constantLong RX12 467 (65537), .methodLink RX12 346 yX12_wishOf, .instanceMethod yX12_wishOf, .selects RX12 yX12_wishOf yX12_wishOf, .initialized RX12] (apW wsX120 (apW wsX110 (vfX12_wishOf))))
theorem ifX12_taker_x_X12 : ∀ w ∈ wsX120, w ∈ vfX12_taker_x := fun _ h => (List.mem_cons_of_mem _ (List.mem_append_right _ (List.mem_append_left _ h)))
theorem ifX12_taker_x_X11 : ∀ w ∈ wsX110, w ∈ vfX12_taker_x := fun _ h => (List.mem_cons_of_mem _ (List.mem_append_right _ (List.mem_append_right _ (List.mem_append_left _ h))))
theorem qfX12_taker_x : Good vfX12_taker_x := gd_cons (by decide +kernel) (gd_app (gd_dec (by decide +kernel) : Good [.fieldLink RX12 299 "HookPierModel" "pier" "LHookPierModel$Pier;", .constantLong RX12 463 (75), .constantLong RX12 465 (74), .constantLong RX12 467 (65537), .methodLink RX12 346 yX12_wishOf, .instanceMethod yX12_wishOf, .selects RX12 yX12_wishOf yX12_wishOf, .initialized RX12]) (gd_app qsX12 (gd_app qsX11 qfX12_wishOf)))
theorem gfX12_taker_x_0 : GoodIn vfX12_taker_x (wsV RX12 346 RX12 yX12_wishOf vfX12_wishOf) := goodIn_app (goodIn_r [.methodLink RX12 346 yX12_wishOf, .instanceMethod yX12_wishOf, .selects RX12 yX12_wishOf yX12_wishOf, .initialized RX12] [5, 6, 7, 8] rfl (by decide +kernel)) (goodIn_m (fun _ h => (List.mem_cons_of_mem _ (List.mem_append_right _ (List.mem_append_right _ (List.mem_append_right _ h))))) qfX12_wishOf)
set_option maxHeartbeats 2000000 in
set_option maxRecDepth 100000 in
theorem kfX12_taker_x (l : Launch) (dC : Nat → ClassId) (dI : Nat → Nat → Nat) (a0 : Nat) (a1 : Nat) (k2 : Int32) (a3 : Nat) (uq : Nat → Nat) (kq : Nat → ClassId) (m_w : TX12_w) (g7 : Value) (g8 : Value) (g9 : Value) (g10 : Value) (g11 : Value) (g12 : Value) (g13 : Value) (g14 : Value) (g15 : Value) (g16 : Value) (g17 : Value) (g18 : Value) (g19 : Value) (g20 : Value) (g21 : Value) (g22 : Value) (g23 : Value) (g24 : Value) (g25 : Value) (g26 : Value) (g27 : Value) (g28 : Value) (g29 : Value) (g30 : Value) (g31 : Value) (g32 : Value) (g33 : Value) (g34 : Value) (q_q : TX11_q) (cB36 : ClassId) (sz : Nat) (out : (Int32 × TX12_w)) (h : f_X12_taker_x k2 m_w q_q = some out) : KCi l yX12_taker vfX12_taker_x ({ frames := 4, cells := 0, slots := 0, locals := 93 }) (dC, dI) [.ref a0, .ref a1, .int k2] sz ((a0, .inr (9, [g7, g8, g9, .ref a3, g10, g11, g12, g13, g14, g15, g16, g17, g18, g19, g20, g21, .ref a1, g22, g23, g24, g25, g26, g27, g28, g29, g30, g31, g32, g33, g34])) :: bX11 a3 uq kq q_q ([(a1, .inl (cB36, 26, .inl m_w))])) (tX11 kq ((cB36, .int) :: [])) (fun (r : Int32) _ => r = out.1) ((a0, .inr (9, [g7, g8, g9, .ref a3, g10, g11, g12, g13, g14, g15, g16, g17, g18, g19, g20, g21, .ref a1, g22, g23, g24, g25, g26, g27, g28, g29, g30, g31, g32, g33, g34])) :: bX11 a3 uq kq q_q ([(a1, .inl (cB36, 26, .inl out.2))])) 0 0 := by
  refine Met.ofW (cc := cX12_taker) (maxL := 4) (ret := (some .int)) (by decide) rfl ?_
  intro p e s m args below meth c s₁ B0 hml hv
  obtain ⟨rfl, hsz, hP, hK, hD0, hN⟩ := hv
  have hx := B0.exec
  have hb := B0.bytes
  have hr := B0.returns
  have hts := atoms_spec (ws := vfX12_taker_x) B0.pre
  have hown : s.vm.findClass RX12 = some m.cls := findClass_of_methodNamed B0.named
  have hlocks := B0.notSynchronized
  subst hsz
  have hD := hD0.self (sz := s.heap.size)
  generalize hAe : va_A ((a0, .inr (9, [g7, g8, g9, .ref a3, g10, g11, g12, g13, g14, g15, g16, g17, g18, g19, g20, g21, .ref a1, g22, g23, g24, g25, g26, g27, g28, g29, g30, g31, g32, g33, g34])) :: bX11 a3 uq kq q_q ([(a1, .inl (cB36, 26, .inl m_w))])) s.heap.size = A at hD ⊢
  have hA : ∀ q : Nat, s.heap.size ≤ q → A q := fun q h => by rw [← hAe]; exact Or.inr h
  have hS : va_S A s.heap s.heap [] := va_S.rf
  have hP : va_P (dC, dI) vwCl ((a0, .inr (9, [g7, g8, g9, .ref a3, g10, g11, g12, g13, g14, g15, g16, g17, g18, g19, g20, g21, .ref a1, g22, g23, g24, g25, g26, g27, g28, g29, g30, g31, g32, g33, g34])) :: bX11 a3 uq kq q_q ([(a1, .inl (cB36, 26, .inl m_w))])) s.heap := hP
  have hl := lv_entry ([.ref a0, .ref a1, .int k2]) (n := 4) (Nat.le_of_ble_eq_true rfl)
  rw [lg_entry_eq]
  generalize (lg_sl ([.ref a0, .ref a1, .int k2]) ++ List.replicate (4 - (lg_sl ([.ref a0, .ref a1, .int k2])).length) Slot.unset).toArray = ls at hl ⊢
  have hl : lv_has ls 4 [(0, .ref a0), (1, .ref a1), (2, .int k2)] := hl
  refine W_q (fun QQ hQQ => ?_)
  rw [f_X12_taker_x] at h
  refine lv_iconst (v := 0) hx hb (zat zrX12_taker_0_ok 0 rfl) (by decide) ?_
  refine lv_istore_n (lv' := [(3, .int 0), (0, .ref a0), (1, .ref a1), (2, .int k2)]) hx hb (zat zrX12_taker_0_ok 1 rfl) rfl hl (by decide) rfl (fun ls hl => ?_)
  have L2 : ∀ (n2 : Nat) (v2_l3 : Int32) (v2_m_w : TX12_w) (H : Heap) (locs : List Loc) (ls : Array Slot), f_X12_taker_x_L2 k2 q_q n2 v2_l3 v2_m_w = some out → va_P (dC, dI) vwCl ((a0, .inr (9, [g7, g8, g9, .ref a3, g10, g11, g12, g13, g14, g15, g16, g17, g18, g19, g20, g21, .ref a1, g22, g23, g24, g25, g26, g27, g28, g29, g30, g31, g32, g33, g34])) :: bX11 a3 uq kq q_q ([(a1, .inl (cB36, 26, .inl v2_m_w))])) H → va_D A ((a0, .inr (9, [g7, g8, g9, .ref a3, g10, g11, g12, g13, g14, g15, g16, g17, g18, g19, g20, g21, .ref a1, g22, g23, g24, g25, g26, g27, g28, g29, g30, g31, g32, g33, g34])) :: bX11 a3 uq kq q_q ([(a1, .inl (cB36, 26, .inl v2_m_w))])) → va_S A s.heap H locs → lv_has ls 4 [(3, .int v2_l3), (0, .ref a0), (1, .ref a1), (2, .int k2)] → W p l e (headSpec vfX12_taker_x { frames := 4, cells := 0, slots := 0, locals := 93 }).room s m ([.ref a0, .ref a1, .int k2]).toArray below meth c H locs 0 0 QQ (F0 m 2 ls []) := by
    intro n2
    induction n2 with
    | zero =>
      intro v2_l3 v2_m_w H locs ls h  _ _ _ _
      rw [f_X12_taker_x_L2] at h
      cases h
    | succ n2 ih2 =>
      intro v2_l3 v2_m_w H locs ls h  hP hD hS hl
      rw [f_X12_taker_x_L2] at h
      refine lv_iload_n hx hb (zat zrX12_taker_0_ok 2 rfl) rfl (lv_at hl 0 rfl) ?_
      refine lv_aload_n hx hb (zat zrX12_taker_0_ok 3 rfl) rfl (lv_at hl 1 rfl) ?_
      refine va_get (D := (dC, dI)) (ci := 9) (v := .ref a3) (C := RX12) (T := TX12) (N := 30) hx hb hts ifX12_taker_x_X12 hown hK hP 0 rfl rfl 3 (by decide) (hts (.fieldLink RX12 299 "HookPierModel" "pier" "LHookPierModel$Pier;") (List.mem_of_getElem? (i := 1) rfl)) (fun _ h9 => h9) rfl (zat zrX12_taker_0_ok 4 rfl) ?_
      refine va_getN (D := (dC, dI)) (ci := 8) (v := .int q_q.2.2.2.2.2.2.1) (C := RX11) (T := TX11) (N := 24) hx hb hts ifX12_taker_x_X11 hown hK hP 1 rfl rfl 6 (by decide) (va_Nw.use rfl (hN.1 (.fieldLinkNest RX12 231 "HookPierModel$Pier" "answers" "I" "HookPierModel") (List.mem_of_getElem? (i := 28) rfl))) (fun _ h9 => h9) rfl (zat zrX12_taker_0_ok 5 rfl) ?_
      refine lv_icmp_ge (tgt := 70) hx hb (zat zrX12_taker_0_ok 6 rfl) (by decide) (fun c10 => ?_) (fun c10 => ?_)
      · have h := (if_pos c10).symm.trans h
        refine lv_bipush (v := (-2)) hx hb (zat zrX12_taker_0_ok 42 rfl) (by decide) ?_
        obtain rfl := Option.some.inj h
        obtain ⟨hP9, hD9⟩ := pd_sub ((a0, .inr (9, [g7, g8, g9, .ref a3, g10, g11, g12, g13, g14, g15, g16, g17, g18, g19, g20, g21, .ref a1, g22, g23, g24, g25, g26, g27, g28, g29, g30, g31, g32, g33, g34])) :: bX11 a3 uq kq q_q ([(a1, .inl (cB36, 26, .inl v2_m_w))])) [0, 1, 2, 3, 4, 5, 6, 7, 8, 9, 10, 11, 12, 13, 14, 15, 16] hP hD (by decide) rfl
        have hK9 := hK.sub (tys' := []) [] rfl
        rw [hQQ]
        exact W.iret (v := (-2 : Int32)) hx hb hr (fun t ht hW => ⟨⟨(-2 : Int32), (), rfl, rfl, by rw [ht]; exact hP9, va_K.moved hW.alike hK9, hD9⟩, hS.F ht⟩) hS.2.2 (zat zrX12_taker_0_ok 43 rfl)
      · have h := (if_neg c10).symm.trans h
        refine lv_aload_n hx hb (zat zrX12_taker_0_ok 7 rfl) rfl (lv_at hl 2 rfl) ?_
        refine lv_iconst (v := 0) hx hb (zat zrX12_taker_0_ok 8 rfl) (by decide) ?_
        refine lv_iload_n hx hb (zat zrX12_taker_0_ok 9 rfl) rfl (lv_at hl 0 rfl) ?_
        refine lv_iadd hx hb (zat zrX12_taker_0_ok 10 rfl) ?_
        obtain ⟨hg17, h⟩ := gA_of h
        refine va_iald hx hb hK hP 16 14 rfl rfl hg17 (zat zrX12_taker_0_ok 11 rfl) ?_
        have J64 : ∀ (v64_m_w : TX12_w) (H : Heap) (locs : List Loc) (ls : Array Slot), f_X12_taker_x_J64 (f_X12_taker_x_L2 k2 q_q n2) v2_l3 v64_m_w = some out → va_P (dC, dI) vwCl ((a1, .inl (cB36, 26, .inl v64_m_w)) :: (a0, .inr (9, [g7, g8, g9, .ref a3, g10, g11, g12, g13, g14, g15, g16, g17, g18, g19, g20, g21, .ref a1, g22, g23, g24, g25, g26, g27, g28, g29, g30, g31, g32, g33, g34])) :: bX11 a3 uq kq q_q []) H → va_D A ((a1, .inl (cB36, 26, .inl v64_m_w)) :: (a0, .inr (9, [g7, g8, g9, .ref a3, g10, g11, g12, g13, g14, g15, g16, g17, g18, g19, g20, g21, .ref a1, g22, g23, g24, g25, g26, g27, g28, g29, g30, g31, g32, g33, g34])) :: bX11 a3 uq kq q_q []) → va_S A s.heap H locs → lv_has ls 4 [(3, .int v2_l3), (0, .ref a0), (1, .ref a1), (2, .int k2)] → W p l e (headSpec vfX12_taker_x { frames := 4, cells := 0, slots := 0, locals := 93 }).room s m ([.ref a0, .ref a1, .int k2]).toArray below meth c H locs 0 0 QQ (F0 m 64 ls []) := by
          intro v64_m_w H locs ls h  hP hD hS hl
          rw [f_X12_taker_x_J64] at h
          refine lv_iinc (v := (v2_l3 + (1 : Int32))) (lv' := [(3, .int (v2_l3 + (1 : Int32))), (0, .ref a0), (1, .ref a1), (2, .int k2)]) hx hb (zat zrX12_taker_0_ok 40 rfl) hl (k := 0) rfl rfl (by decide) rfl (fun ls hl => ?_)
          refine lv_goto (tgt := 2) hx hb (zat zrX12_taker_0_ok 41 rfl) (by decide) ?_
          exact ih2 (v2_l3 + (1 : Int32)) v64_m_w H _ ls h  (hP.sub (ws' := ((a0, .inr (9, [g7, g8, g9, .ref a3, g10, g11, g12, g13, g14, g15, g16, g17, g18, g19, g20, g21, .ref a1, g22, g23, g24, g25, g26, g27, g28, g29, g30, g31, g32, g33, g34])) :: bX11 a3 uq kq q_q ([(a1, .inl (cB36, 26, .inl v64_m_w))]))) [1, 2, 3, 4, 5, 6, 7, 8, 9, 10, 11, 12, 13, 14, 15, 16, 0] rfl) (hD.sub (ws' := ((a0, .inr (9, [g7, g8, g9, .ref a3, g10, g11, g12, g13, g14, g15, g16, g17, g18, g19, g20, g21, .ref a1, g22, g23, g24, g25, g26, g27, g28, g29, g30, g31, g32, g33, g34])) :: bX11 a3 uq kq q_q ([(a1, .inl (cB36, 26, .inl v64_m_w))]))) [1, 2, 3, 4, 5, 6, 7, 8, 9, 10, 11, 12, 13, 14, 15, 16, 0] (by decide) rfl) hS (lv_sub hl [0, 1, 2, 3] rfl)
        refine lv_if_eq (tgt := 24) hx hb (zat zrX12_taker_0_ok 12 rfl) (by decide) (fun c18 => ?_) (fun c18 => ?_)
        · have h := (if_pos c18).symm.trans h
          refine lv_aload_n hx hb (zat zrX12_taker_0_ok 14 rfl) rfl (lv_at hl 2 rfl) ?_
          refine lv_bipush (v := 24) hx hb (zat zrX12_taker_0_ok 15 rfl) (by decide) ?_
          refine lv_ldc2 hx hb hown (hts (.constantLong RX12 463 (75)) (List.mem_of_getElem? (i := 2) rfl)) (zat zrX12_taker_0_ok 16 rfl) ?_
          refine lv_aload_n hx hb (zat zrX12_taker_0_ok 17 rfl) rfl (lv_at hl 2 rfl) ?_
          refine lv_bipush (v := 24) hx hb (zat zrX12_taker_0_ok 18 rfl) (by decide) ?_
          refine va_iald hx hb hK hP 16 14 rfl rfl (by unfold vp_in; decide) (zat zrX12_taker_0_ok 19 rfl) ?_
          refine lv_i2l hx hb (zat zrX12_taker_0_ok 20 rfl) rfl ?_
          refine lv_lmul hx hb (zat zrX12_taker_0_ok 21 rfl) ?_
          refine lv_topl (fun z35 ez35 => ?_)
          have h := nm_of h z35 ez35
          refine lv_ldc2 hx hb hown (hts (.constantLong RX12 465 (74)) (List.mem_of_getElem? (i := 3) rfl)) (zat zrX12_taker_0_ok 22 rfl) ?_
          refine lv_ladd hx hb (zat zrX12_taker_0_ok 23 rfl) ?_
          refine lv_ldc2 hx hb hown (hts (.constantLong RX12 467 (65537)) (List.mem_of_getElem? (i := 4) rfl)) (zat zrX12_taker_0_ok 24 rfl) ?_
          refine lv_lrem hx hb (zat zrX12_taker_0_ok 25 rfl) (by decide) ?_
          refine lv_topl (fun z43 ez43 => ?_)
          have h := nm_of h z43 ez43
          refine lv_l2i hx hb (zat zrX12_taker_0_ok 26 rfl) rfl ?_
          refine va_iast hx hb hK hP hD hS 16 14 rfl rfl (by unfold vp_in; decide) (zat zrX12_taker_0_ok 27 rfl) (fun H locs hP hD hS => ?_)
          obtain ⟨hP, hD⟩ := pd_mk ((a0, .inr (9, [g7, g8, g9, .ref a3, g10, g11, g12, g13, g14, g15, g16, g17, g18, g19, g20, g21, .ref a1, g22, g23, g24, g25, g26, g27, g28, g29, g30, g31, g32, g33, g34])) :: bX11 a3 uq kq q_q ([(a1, .inl (cB36, 26, .inl (upd v2_m_w ((24 : Int32)).toNatClampNeg (z43).toInt32)))])) hP hD
          refine lv_aload_n hx hb (zat zrX12_taker_0_ok 28 rfl) rfl (lv_at hl 2 rfl) ?_
          refine lv_bipush (v := 24) hx hb (zat zrX12_taker_0_ok 29 rfl) (by decide) ?_
          refine va_iald hx hb hK hP 16 14 rfl rfl (by unfold vp_in; decide) (zat zrX12_taker_0_ok 30 rfl) ?_
          refine lv_topi (fun z49 ez49 => ?_)
          have h := nm_of h z49 ez49
          refine lv_bipush (v := 100) hx hb (zat zrX12_taker_0_ok 31 rfl) (by decide) ?_
          refine lv_irem hx hb (zat zrX12_taker_0_ok 32 rfl) (by decide) ?_
          refine lv_aload_n hx hb (zat zrX12_taker_0_ok 33 rfl) rfl (lv_at hl 1 rfl) ?_
          refine lv_iload_n hx hb (zat zrX12_taker_0_ok 34 rfl) rfl (lv_at hl 0 rfl) ?_
          refine lv_iload_n hx hb (zat zrX12_taker_0_ok 35 rfl) rfl (lv_at hl 3 rfl) ?_
          obtain ⟨o56, eo56, h⟩ := bd_of h
          refine ck_i (wc := ((a0, .inr (9, [g7, g8, g9, .ref a3, g10, g11, g12, g13, g14, g15, g16, g17, g18, g19, g20, g21, .ref a1, g22, g23, g24, g25, g26, g27, g28, g29, g30, g31, g32, g33, g34])) :: bX11 a3 uq kq q_q [])) (wr := ([(a1, .inl (cB36, 26, .inl (upd v2_m_w ((24 : Int32)).toNatClampNeg (z43).toInt32)))])) hP hD hK hS hA [0, 1, 2, 3, 4, 5, 6, 7, 8, 9, 10, 11, 12, 13, 14, 15] [16] rfl rfl (by decide) (by decide) (by decide) (fun hPc hDc => (va_runV (As := [.int v2_l3, .int k2]) (rest := [.int (z49 - z49 / (100 : Int32) * (100 : Int32))]) ⟨hx, hb, hml, hown, hts⟩ (kfX12_wishOf l dC dI a0 v2_l3 k2 a3 uq kq (g7) (g8) (g9) (g10) (g11) (g12) (g13) (g14) (g15) (g16) (g17) (g18) (g19) (g20) (g21) (.ref a1) (g22) (g23) (g24) (g25) (g26) (g27) (g28) (g29) (g30) (g31) (g32) (g33) (g34) q_q H.size o56 eo56) (cwV 2 hts gfX12_taker_x_0 rfl rfl rfl (by decide +kernel) ⟨(Nat.le_of_ble_eq_true rfl), (Nat.le_of_ble_eq_true rfl)⟩) (PV hPc (hK.sub (tys' := (tX11 kq ([]))) [0, 1, 2, 3, 4, 5, 6, 7, 8, 9, 10, 11, 12, 13] rfl) hDc hN 0 rfl rfl) rfl rfl hl.1 rfl (lv_room (Nat.le_of_ble_eq_true rfl)) (zat zrX12_taker_0_ok 36 rfl) ⟨(Nat.le_of_ble_eq_true rfl), (Nat.le_of_ble_eq_true rfl)⟩)) (fun r56 _ H locs hw hP hD _ hS => ?_)
          obtain rfl := hw.symm
          obtain ⟨hP, hD⟩ := pd_mk ((a1, .inl (cB36, 26, .inl (upd v2_m_w ((24 : Int32)).toNatClampNeg (z43).toInt32))) :: (a0, .inr (9, [g7, g8, g9, .ref a3, g10, g11, g12, g13, g14, g15, g16, g17, g18, g19, g20, g21, .ref a1, g22, g23, g24, g25, g26, g27, g28, g29, g30, g31, g32, g33, g34])) :: bX11 a3 uq kq q_q []) hP hD
          refine lv_icmp_ge (tgt := 64) hx hb (zat zrX12_taker_0_ok 37 rfl) (by decide) (fun c59 => ?_) (fun c59 => ?_)
          · have h := (if_pos c59).symm.trans h
            exact J64 (upd v2_m_w ((24 : Int32)).toNatClampNeg (z43).toInt32) H _ ls h  hP hD hS (lv_sub hl [0, 1, 2, 3] rfl)
          · have h := (if_neg c59).symm.trans h
            refine lv_iload_n hx hb (zat zrX12_taker_0_ok 38 rfl) rfl (lv_at hl 0 rfl) ?_
            obtain rfl := Option.some.inj h
            obtain ⟨hP9, hD9⟩ := pd_sub ((a0, .inr (9, [g7, g8, g9, .ref a3, g10, g11, g12, g13, g14, g15, g16, g17, g18, g19, g20, g21, .ref a1, g22, g23, g24, g25, g26, g27, g28, g29, g30, g31, g32, g33, g34])) :: bX11 a3 uq kq q_q ([(a1, .inl (cB36, 26, .inl (upd v2_m_w ((24 : Int32)).toNatClampNeg (z43).toInt32)))])) [1, 2, 3, 4, 5, 6, 7, 8, 9, 10, 11, 12, 13, 14, 15, 16, 0] hP hD (by decide) rfl
            have hK9 := hK.sub (tys' := []) [] rfl
            rw [hQQ]
            exact W.iret (v := v2_l3) hx hb hr (fun t ht hW => ⟨⟨v2_l3, (), rfl, rfl, by rw [ht]; exact hP9, va_K.moved hW.alike hK9, hD9⟩, hS.F ht⟩) hS.2.2 (zat zrX12_taker_0_ok 39 rfl)
        · have h := (if_neg c18).symm.trans h
          refine lv_goto (tgt := 64) hx hb (zat zrX12_taker_0_ok 13 rfl) (by decide) ?_
          exact J64 v2_m_w H _ ls h  (hP.sub (ws' := ((a1, .inl (cB36, 26, .inl v2_m_w)) :: (a0, .inr (9, [g7, g8, g9, .ref a3, g10, g11, g12, g13, g14, g15, g16, g17, g18, g19, g20, g21, .ref a1, g22, g23, g24, g25, g26, g27, g28, g29, g30, g31, g32, g33, g34])) :: bX11 a3 uq kq q_q [])) [16, 0, 1, 2, 3, 4, 5, 6, 7, 8, 9, 10, 11, 12, 13, 14, 15] rfl) (hD.sub (ws' := ((a1, .inl (cB36, 26, .inl v2_m_w)) :: (a0, .inr (9, [g7, g8, g9, .ref a3, g10, g11, g12, g13, g14, g15, g16, g17, g18, g19, g20, g21, .ref a1, g22, g23, g24, g25, g26, g27, g28, g29, g30, g31, g32, g33, g34])) :: bX11 a3 uq kq q_q [])) [16, 0, 1, 2, 3, 4, 5, 6, 7, 8, 9, 10, 11, 12, 13, 14, 15] (by decide) rfl) hS (lv_sub hl [0, 1, 2, 3] rfl)
  exact L2 FU (0 : Int32) m_w s.heap _ ls h  hP hD hS (lv_sub hl [0, 1, 2, 3] rfl)
def vfX12_goesBy_x : List Cond := List.cons (.code yX12_goesBy cX12_goesBy 5 (some .int)) (apW [.fieldLink RX12 299 "HookPierModel" "pier" "LHookPierModel$Pier;", .methodLink RX12 341 yX11_isClose, .instanceMethod yX11_isClose, .selects RX11 yX11_isClose yX11_isClose, .initialized RX11, .methodLink RX12 337 yX12_isTangled, .instanceMethod yX12_isTangled, .selects RX12 yX12_isTangled yX12_isTangled, .initialized RX12, .methodLink RX12 469 yX12_taker, .instanceMethod yX12_taker, .selects RX12 yX12_taker yX12_taker, .fieldLink RX12 473 "HookPierModel" "crabsNow" "I"] (apW wsX120 (apW wsX110 (apW vfX11_isClose (apW vfX12_isTangled_x (vfX12_taker_x))))))
theorem ifX12_goesBy_x_X12 : ∀ w ∈ wsX120, w ∈ vfX12_goesBy_x := fun _ h => (List.mem_cons_of_mem _ (List.mem_append_right _ (List.mem_append_left _ h)))
theorem ifX12_goesBy_x_X11 : ∀ w ∈ wsX110, w ∈ vfX12_goesBy_x := fun _ h => (List.mem_cons_of_mem _ (List.mem_append_right _ (List.mem_append_right _ (List.mem_append_left _ h))))
theorem qfX12_goesBy_x : Good vfX12_goesBy_x := gd_cons (by decide +kernel) (gd_app (gd_dec (by decide +kernel) : Good [.fieldLink RX12 299 "HookPierModel" "pier" "LHookPierModel$Pier;", .methodLink RX12 341 yX11_isClose, .instanceMethod yX11_isClose, .selects RX11 yX11_isClose yX11_isClose, .initialized RX11, .methodLink RX12 337 yX12_isTangled, .instanceMethod yX12_isTangled, .selects RX12 yX12_isTangled yX12_isTangled, .initialized RX12, .methodLink RX12 469 yX12_taker, .instanceMethod yX12_taker, .selects RX12 yX12_taker yX12_taker, .fieldLink RX12 473 "HookPierModel" "crabsNow" "I"]) (gd_app qsX12 (gd_app qsX11 (gd_app qfX11_isClose (gd_app qfX12_isTangled_x qfX12_taker_x)))))
theorem gfX12_goesBy_x_0 : GoodIn vfX12_goesBy_x (wsV RX12 341 RX11 yX11_isClose vfX11_isClose) := goodIn_app (goodIn_r [.methodLink RX12 341 yX11_isClose, .instanceMethod yX11_isClose, .selects RX11 yX11_isClose yX11_isClose, .initialized RX11] [2, 3, 4, 5] rfl (by decide +kernel)) (goodIn_m (fun _ h => (List.mem_cons_of_mem _ (List.mem_append_right _ (List.mem_append_right _ (List.mem_append_right _ (List.mem_append_left _ h)))))) qfX11_isClose)
theorem gfX12_goesBy_x_1 : GoodIn vfX12_goesBy_x (wsV RX12 337 RX12 yX12_isTangled vfX12_isTangled_x) := goodIn_app (goodIn_r [.methodLink RX12 337 yX12_isTangled, .instanceMethod yX12_isTangled, .selects RX12 yX12_isTangled yX12_isTangled, .initialized RX12] [6, 7, 8, 9] rfl (by decide +kernel)) (goodIn_m (fun _ h => (List.mem_cons_of_mem _ (List.mem_append_right _ (List.mem_append_right _ (List.mem_append_right _ (List.mem_append_right _ (List.mem_append_left _ h))))))) qfX12_isTangled_x)
theorem gfX12_goesBy_x_2 : GoodIn vfX12_goesBy_x (wsV RX12 469 RX12 yX12_taker vfX12_taker_x) := goodIn_app (goodIn_r [.methodLink RX12 469 yX12_taker, .instanceMethod yX12_taker, .selects RX12 yX12_taker yX12_taker, .initialized RX12] [10, 11, 12, 9] rfl (by decide +kernel)) (goodIn_m (fun _ h => (List.mem_cons_of_mem _ (List.mem_append_right _ (List.mem_append_right _ (List.mem_append_right _ (List.mem_append_right _ (List.mem_append_right _ h))))))) qfX12_taker_x)
set_option maxHeartbeats 2000000 in
set_option maxRecDepth 100000 in
theorem kfX12_goesBy_x (l : Launch) (dC : Nat → ClassId) (dI : Nat → Nat → Nat) (a0 : Nat) (a1 : Nat) (a2 : Nat) (uq : Nat → Nat) (kq : Nat → ClassId) (m_w : TX12_w) (m_c : TX12_c) (g7 : Value) (g8 : Value) (g9 : Value) (g10 : Value) (g11 : Value) (g12 : Value) (g13 : Value) (g14 : Value) (g15 : Value) (g16 : Value) (g17 : Value) (g18 : Value) (g19 : Value) (g20 : Value) (g21 : Value) (g22 : Value) (g23 : Value) (g24 : Value) (g25 : Value) (g26 : Value) (g27 : Value) (g28 : Value) (g29 : Value) (g30 : Value) (g31 : Value) (q_q : TX11_q) (cB33 : ClassId) (sz : Nat) (out : (Int32 × TX12_w × TX12_c)) (h : f_X12_goesBy_x m_w m_c q_q = some out) : KCi l yX12_goesBy vfX12_goesBy_x ({ frames := 5, cells := 0, slots := 0, locals := 116 }) (dC, dI) [.ref a0, .ref a1] sz ((a0, .inr (9, [g7, g8, g9, .ref a2, g10, g11, g12, g13, g14, g15, g16, g17, g18, g19, g20, g21, .ref a1, g22, g23, g24, g25, g26, g27, g28, g29, g30, g31, .int m_c.1, .int m_c.2.1, .int m_c.2.2])) :: bX11 a2 uq kq q_q ([(a1, .inl (cB33, 26, .inl m_w))])) (tX11 kq ((cB33, .int) :: [])) (fun (r : Int32) _ => r = out.1) ((a0, .inr (9, [g7, g8, g9, .ref a2, g10, g11, g12, g13, g14, g15, g16, g17, g18, g19, g20, g21, .ref a1, g22, g23, g24, g25, g26, g27, g28, g29, g30, g31, .int out.2.2.1, .int out.2.2.2.1, .int out.2.2.2.2])) :: bX11 a2 uq kq q_q ([(a1, .inl (cB33, 26, .inl out.2.1))])) 0 0 := by
  refine Met.ofW (cc := cX12_goesBy) (maxL := 5) (ret := (some .int)) (by decide) rfl ?_
  intro p e s m args below meth c s₁ B0 hml hv
  obtain ⟨rfl, hsz, hP, hK, hD0, hN⟩ := hv
  have hx := B0.exec
  have hb := B0.bytes
  have hr := B0.returns
  have hts := atoms_spec (ws := vfX12_goesBy_x) B0.pre
  have hown : s.vm.findClass RX12 = some m.cls := findClass_of_methodNamed B0.named
  have hlocks := B0.notSynchronized
  subst hsz
  have hD := hD0.self (sz := s.heap.size)
  generalize hAe : va_A ((a0, .inr (9, [g7, g8, g9, .ref a2, g10, g11, g12, g13, g14, g15, g16, g17, g18, g19, g20, g21, .ref a1, g22, g23, g24, g25, g26, g27, g28, g29, g30, g31, .int m_c.1, .int m_c.2.1, .int m_c.2.2])) :: bX11 a2 uq kq q_q ([(a1, .inl (cB33, 26, .inl m_w))])) s.heap.size = A at hD ⊢
  have hA : ∀ q : Nat, s.heap.size ≤ q → A q := fun q h => by rw [← hAe]; exact Or.inr h
  have hS : va_S A s.heap s.heap [] := va_S.rf
  have hP : va_P (dC, dI) vwCl ((a0, .inr (9, [g7, g8, g9, .ref a2, g10, g11, g12, g13, g14, g15, g16, g17, g18, g19, g20, g21, .ref a1, g22, g23, g24, g25, g26, g27, g28, g29, g30, g31, .int m_c.1, .int m_c.2.1, .int m_c.2.2])) :: bX11 a2 uq kq q_q ([(a1, .inl (cB33, 26, .inl m_w))])) s.heap := hP
  have hl := lv_entry ([.ref a0, .ref a1]) (n := 5) (Nat.le_of_ble_eq_true rfl)
  rw [lg_entry_eq]
  generalize (lg_sl ([.ref a0, .ref a1]) ++ List.replicate (5 - (lg_sl ([.ref a0, .ref a1])).length) Slot.unset).toArray = ls at hl ⊢
  have hl : lv_has ls 5 [(0, .ref a0), (1, .ref a1)] := hl
  refine W_q (fun QQ hQQ => ?_)
  rw [f_X12_goesBy_x] at h
  refine lv_iconst (v := 0) hx hb (zat zrX12_goesBy_0_ok 0 rfl) (by decide) ?_
  refine lv_istore_n (lv' := [(2, .int 0), (0, .ref a0), (1, .ref a1)]) hx hb (zat zrX12_goesBy_0_ok 1 rfl) rfl hl (by decide) rfl (fun ls hl => ?_)
  refine lv_iconst (v := 0) hx hb (zat zrX12_goesBy_0_ok 2 rfl) (by decide) ?_
  refine lv_istore_n (lv' := [(3, .int 0), (2, .int 0), (0, .ref a0), (1, .ref a1)]) hx hb (zat zrX12_goesBy_0_ok 3 rfl) rfl hl (by decide) rfl (fun ls hl => ?_)
  have L4 : ∀ (n4 : Nat) (v4_l3 : Int32) (v4_l2 : Int32) (v4_m_w : TX12_w) (v4_m_c : TX12_c) (H : Heap) (locs : List Loc) (ls : Array Slot), f_X12_goesBy_x_L4 q_q n4 v4_l3 v4_l2 v4_m_w v4_m_c = some out → va_P (dC, dI) vwCl ((a0, .inr (9, [g7, g8, g9, .ref a2, g10, g11, g12, g13, g14, g15, g16, g17, g18, g19, g20, g21, .ref a1, g22, g23, g24, g25, g26, g27, g28, g29, g30, g31, .int v4_m_c.1, .int v4_m_c.2.1, .int v4_m_c.2.2])) :: bX11 a2 uq kq q_q ([(a1, .inl (cB33, 26, .inl v4_m_w))])) H → va_D A ((a0, .inr (9, [g7, g8, g9, .ref a2, g10, g11, g12, g13, g14, g15, g16, g17, g18, g19, g20, g21, .ref a1, g22, g23, g24, g25, g26, g27, g28, g29, g30, g31, .int v4_m_c.1, .int v4_m_c.2.1, .int v4_m_c.2.2])) :: bX11 a2 uq kq q_q ([(a1, .inl (cB33, 26, .inl v4_m_w))])) → va_S A s.heap H locs → lv_has ls 5 [(3, .int v4_l3), (2, .int v4_l2), (0, .ref a0), (1, .ref a1)] → W p l e (headSpec vfX12_goesBy_x { frames := 5, cells := 0, slots := 0, locals := 116 }).room s m ([.ref a0, .ref a1]).toArray below meth c H locs 0 0 QQ (F0 m 4 ls []) := by
    intro n4
    induction n4 with
    | zero =>
      intro v4_l3 v4_l2 v4_m_w v4_m_c H locs ls h  _ _ _ _
      rw [f_X12_goesBy_x_L4] at h
      cases h
    | succ n4 ih4 =>
      intro v4_l3 v4_l2 v4_m_w v4_m_c H locs ls h  hP hD hS hl
      rw [f_X12_goesBy_x_L4] at h
      refine lv_iload_n hx hb (zat zrX12_goesBy_0_ok 4 rfl) rfl (lv_at hl 0 rfl) ?_
      refine lv_aload_n hx hb (zat zrX12_goesBy_0_ok 5 rfl) rfl (lv_at hl 2 rfl) ?_
      refine va_get (D := (dC, dI)) (ci := 9) (v := .ref a2) (C := RX12) (T := TX12) (N := 30) hx hb hts ifX12_goesBy_x_X12 hown hK hP 0 rfl rfl 3 (by decide) (hts (.fieldLink RX12 299 "HookPierModel" "pier" "LHookPierModel$Pier;") (List.mem_of_getElem? (i := 1) rfl)) (fun _ h9 => h9) rfl (zat zrX12_goesBy_0_ok 6 rfl) ?_
      refine va_getN (D := (dC, dI)) (ci := 8) (v := .int q_q.2.2.2.2.2.1) (C := RX11) (T := TX11) (N := 24) hx hb hts ifX12_goesBy_x_X11 hown hK hP 1 rfl rfl 5 (by decide) (va_Nw.use rfl (hN.1 (.fieldLinkNest RX12 224 "HookPierModel$Pier" "askers" "I" "HookPierModel") (List.mem_of_getElem? (i := 27) rfl))) (fun _ h9 => h9) rfl (zat zrX12_goesBy_0_ok 7 rfl) ?_
      have J149 : ∀ (H : Heap) (locs : List Loc) (ls : Array Slot), f_X12_goesBy_x_J149 v4_l2 v4_m_c v4_m_w = some out → va_P (dC, dI) vwCl ((a0, .inr (9, [g7, g8, g9, .ref a2, g10, g11, g12, g13, g14, g15, g16, g17, g18, g19, g20, g21, .ref a1, g22, g23, g24, g25, g26, g27, g28, g29, g30, g31, .int v4_m_c.1, .int v4_m_c.2.1, .int v4_m_c.2.2])) :: bX11 a2 uq kq q_q ([(a1, .inl (cB33, 26, .inl v4_m_w))])) H → va_D A ((a0, .inr (9, [g7, g8, g9, .ref a2, g10, g11, g12, g13, g14, g15, g16, g17, g18, g19, g20, g21, .ref a1, g22, g23, g24, g25, g26, g27, g28, g29, g30, g31, .int v4_m_c.1, .int v4_m_c.2.1, .int v4_m_c.2.2])) :: bX11 a2 uq kq q_q ([(a1, .inl (cB33, 26, .inl v4_m_w))])) → va_S A s.heap H locs → lv_has ls 5 [(2, .int v4_l2), (1, .ref a1)] → W p l e (headSpec vfX12_goesBy_x { frames := 5, cells := 0, slots := 0, locals := 116 }).room s m ([.ref a0, .ref a1]).toArray below meth c H locs 0 0 QQ (F0 m 149 ls []) := by
        intro  H locs ls h  hP hD hS hl
        rw [f_X12_goesBy_x_J149] at h
        refine lv_aload_n hx hb (zat zrX12_goesBy_1_ok 26 rfl) rfl (lv_at hl 1 rfl) ?_
        refine lv_bipush (v := 23) hx hb (zat zrX12_goesBy_1_ok 27 rfl) (by decide) ?_
        refine lv_dup2_11 hx hb (zat zrX12_goesBy_1_ok 28 rfl) rfl rfl ?_
        refine va_iald hx hb hK hP 16 14 rfl rfl (by unfold vp_in; decide) (zat zrX12_goesBy_1_ok 29 rfl) ?_
        refine lv_iconst (v := 1) hx hb (zat zrX12_goesBy_1_ok 30 rfl) (by decide) ?_
        refine lv_iadd hx hb (zat zrX12_goesBy_1_ok 31 rfl) ?_
        refine va_iast hx hb hK hP hD hS 16 14 rfl rfl (by unfold vp_in; decide) (zat zrX12_goesBy_1_ok 32 rfl) (fun H locs hP hD hS => ?_)
        obtain ⟨hP, hD⟩ := pd_mk ((a0, .inr (9, [g7, g8, g9, .ref a2, g10, g11, g12, g13, g14, g15, g16, g17, g18, g19, g20, g21, .ref a1, g22, g23, g24, g25, g26, g27, g28, g29, g30, g31, .int v4_m_c.1, .int v4_m_c.2.1, .int v4_m_c.2.2])) :: bX11 a2 uq kq q_q ([(a1, .inl (cB33, 26, .inl (upd v4_m_w ((23 : Int32)).toNatClampNeg ((v4_m_w ((23 : Int32)).toNatClampNeg) + (1 : Int32)))))])) hP hD
        refine lv_iload_n hx hb (zat zrX12_goesBy_1_ok 33 rfl) rfl (lv_at hl 0 rfl) ?_
        obtain rfl := Option.some.inj h
        obtain ⟨hP9, hD9⟩ := pd_sub ((a0, .inr (9, [g7, g8, g9, .ref a2, g10, g11, g12, g13, g14, g15, g16, g17, g18, g19, g20, g21, .ref a1, g22, g23, g24, g25, g26, g27, g28, g29, g30, g31, .int v4_m_c.1, .int v4_m_c.2.1, .int v4_m_c.2.2])) :: bX11 a2 uq kq q_q ([(a1, .inl (cB33, 26, .inl (upd v4_m_w ((23 : Int32)).toNatClampNeg ((v4_m_w ((23 : Int32)).toNatClampNeg) + (1 : Int32)))))])) [0, 1, 2, 3, 4, 5, 6, 7, 8, 9, 10, 11, 12, 13, 14, 15, 16] hP hD (by decide) rfl
        have hK9 := hK.sub (tys' := []) [] rfl
        rw [hQQ]
        exact W.iret (v := v4_l2) hx hb hr (fun t ht hW => ⟨⟨v4_l2, (), rfl, rfl, by rw [ht]; exact hP9, va_K.moved hW.alike hK9, hD9⟩, hS.F ht⟩) hS.2.2 (zat zrX12_goesBy_1_ok 34 rfl)
      refine lv_icmp_ge (tgt := 149) hx hb (zat zrX12_goesBy_0_ok 8 rfl) (by decide) (fun c12 => ?_) (fun c12 => ?_)
      · have h := (if_pos c12).symm.trans h
        exact J149  H _ ls h  hP hD hS (lv_sub hl [1, 3] rfl)
      · have h := (if_neg c12).symm.trans h
        refine lv_aload_n hx hb (zat zrX12_goesBy_0_ok 9 rfl) rfl (lv_at hl 2 rfl) ?_
        refine va_get (D := (dC, dI)) (ci := 9) (v := .ref a2) (C := RX12) (T := TX12) (N := 30) hx hb hts ifX12_goesBy_x_X12 hown hK hP 0 rfl rfl 3 (by decide) (hts (.fieldLink RX12 299 "HookPierModel" "pier" "LHookPierModel$Pier;") (List.mem_of_getElem? (i := 1) rfl)) (fun _ h9 => h9) rfl (zat zrX12_goesBy_0_ok 10 rfl) ?_
        refine lv_aload_n hx hb (zat zrX12_goesBy_0_ok 11 rfl) rfl (lv_at hl 3 rfl) ?_
        refine lv_bipush (v := 23) hx hb (zat zrX12_goesBy_0_ok 12 rfl) (by decide) ?_
        refine va_iald hx hb hK hP 16 14 rfl rfl (by unfold vp_in; decide) (zat zrX12_goesBy_0_ok 13 rfl) ?_
        obtain ⟨o23, eo23⟩ : ∃ o, o = f_X11_isClose (v4_m_w ((23 : Int32)).toNatClampNeg) q_q := ⟨_, rfl⟩
        have h := nm_of h o23 eo23
        refine ck_i (wc := (bX11 a2 uq kq q_q [])) (wr := ([(a0, .inr (9, [g7, g8, g9, .ref a2, g10, g11, g12, g13, g14, g15, g16, g17, g18, g19, g20, g21, .ref a1, g22, g23, g24, g25, g26, g27, g28, g29, g30, g31, .int v4_m_c.1, .int v4_m_c.2.1, .int v4_m_c.2.2])), (a1, .inl (cB33, 26, .inl v4_m_w))])) hP hD hK hS hA [1, 2, 3, 4, 5, 6, 7, 8, 9, 10, 11, 12, 13, 14, 15] [0, 16] rfl rfl (by decide) (by decide) (by decide) (fun hPc hDc => (va_runV (As := [.int (v4_m_w ((23 : Int32)).toNatClampNeg)]) (rest := []) ⟨hx, hb, hml, hown, hts⟩ (kfX11_isClose l dC dI a2 (v4_m_w ((23 : Int32)).toNatClampNeg) uq kq q_q H.size o23 eo23.symm) (cwV 1 hts gfX12_goesBy_x_0 rfl rfl rfl (by decide +kernel) ⟨(Nat.le_of_ble_eq_true rfl), (Nat.le_of_ble_eq_true rfl)⟩) (PV hPc (hK.sub (tys' := (tX11 kq ([]))) [0, 1, 2, 3, 4, 5, 6, 7, 8, 9, 10, 11, 12, 13] rfl) hDc hN 0 rfl rfl) rfl rfl hl.1 rfl (lv_room (Nat.le_of_ble_eq_true rfl)) (zat zrX12_goesBy_0_ok 14 rfl) ⟨(Nat.le_of_ble_eq_true rfl), (Nat.le_of_ble_eq_true rfl)⟩)) (fun r23 _ H locs hw hP hD _ hS => ?_)
        obtain ⟨hw, br23⟩ := hw
        obtain rfl := hw.symm
        obtain ⟨hP, hD⟩ := pd_mk ((a0, .inr (9, [g7, g8, g9, .ref a2, g10, g11, g12, g13, g14, g15, g16, g17, g18, g19, g20, g21, .ref a1, g22, g23, g24, g25, g26, g27, g28, g29, g30, g31, .int v4_m_c.1, .int v4_m_c.2.1, .int v4_m_c.2.2])) :: (a1, .inl (cB33, 26, .inl v4_m_w)) :: bX11 a2 uq kq q_q []) hP hD
        refine lv_if_ne (tgt := 149) hx hb (zat zrX12_goesBy_0_ok 15 rfl) (by decide) (fun c26 => ?_) (fun c26 => ?_)
        · have h := (if_neg c26).symm.trans h
          exact J149  H _ ls h  (hP.sub (ws' := ((a0, .inr (9, [g7, g8, g9, .ref a2, g10, g11, g12, g13, g14, g15, g16, g17, g18, g19, g20, g21, .ref a1, g22, g23, g24, g25, g26, g27, g28, g29, g30, g31, .int v4_m_c.1, .int v4_m_c.2.1, .int v4_m_c.2.2])) :: bX11 a2 uq kq q_q ([(a1, .inl (cB33, 26, .inl v4_m_w))]))) [0, 2, 3, 4, 5, 6, 7, 8, 9, 10, 11, 12, 13, 14, 15, 16, 1] rfl) (hD.sub (ws' := ((a0, .inr (9, [g7, g8, g9, .ref a2, g10, g11, g12, g13, g14, g15, g16, g17, g18, g19, g20, g21, .ref a1, g22, g23, g24, g25, g26, g27, g28, g29, g30, g31, .int v4_m_c.1, .int v4_m_c.2.1, .int v4_m_c.2.2])) :: bX11 a2 uq kq q_q ([(a1, .inl (cB33, 26, .inl v4_m_w))]))) [0, 2, 3, 4, 5, 6, 7, 8, 9, 10, 11, 12, 13, 14, 15, 16, 1] (by decide) rfl) hS (lv_sub hl [1, 3] rfl)
        · have h := (if_pos c26).symm.trans h
          refine lv_aload_n hx hb (zat zrX12_goesBy_0_ok 16 rfl) rfl (lv_at hl 3 rfl) ?_
          refine lv_bipush (v := 18) hx hb (zat zrX12_goesBy_0_ok 17 rfl) (by decide) ?_
          refine lv_iload_n hx hb (zat zrX12_goesBy_0_ok 18 rfl) rfl (lv_at hl 0 rfl) ?_
          refine lv_iadd hx hb (zat zrX12_goesBy_0_ok 19 rfl) ?_
          obtain ⟨hg34, h⟩ := gA_of h
          refine va_iald hx hb hK hP 1 14 rfl rfl hg34 (zat zrX12_goesBy_0_ok 20 rfl) ?_
          refine lv_bipush (v := (-2)) hx hb (zat zrX12_goesBy_0_ok 21 rfl) (by decide) ?_
          have J143 : ∀ (v143_l2 : Int32) (v143_m_w : TX12_w) (v143_m_c : TX12_c) (H : Heap) (locs : List Loc) (ls : Array Slot), f_X12_goesBy_x_J143 (f_X12_goesBy_x_L4 q_q n4) v4_l3 v143_l2 v143_m_w v143_m_c = some out → va_P (dC, dI) vwCl ((a0, .inr (9, [g7, g8, g9, .ref a2, g10, g11, g12, g13, g14, g15, g16, g17, g18, g19, g20, g21, .ref a1, g22, g23, g24, g25, g26, g27, g28, g29, g30, g31, .int v143_m_c.1, .int v143_m_c.2.1, .int v143_m_c.2.2])) :: (a1, .inl (cB33, 26, .inl v143_m_w)) :: bX11 a2 uq kq q_q []) H → va_D A ((a0, .inr (9, [g7, g8, g9, .ref a2, g10, g11, g12, g13, g14, g15, g16, g17, g18, g19, g20, g21, .ref a1, g22, g23, g24, g25, g26, g27, g28, g29, g30, g31, .int v143_m_c.1, .int v143_m_c.2.1, .int v143_m_c.2.2])) :: (a1, .inl (cB33, 26, .inl v143_m_w)) :: bX11 a2 uq kq q_q []) → va_S A s.heap H locs → lv_has ls 5 [(3, .int v4_l3), (2, .int v143_l2), (0, .ref a0), (1, .ref a1)] → W p l e (headSpec vfX12_goesBy_x { frames := 5, cells := 0, slots := 0, locals := 116 }).room s m ([.ref a0, .ref a1]).toArray below meth c H locs 0 0 QQ (F0 m 143 ls []) := by
            intro v143_l2 v143_m_w v143_m_c H locs ls h  hP hD hS hl
            rw [f_X12_goesBy_x_J143] at h
            refine lv_iinc (v := (v4_l3 + (1 : Int32))) (lv' := [(3, .int (v4_l3 + (1 : Int32))), (2, .int v143_l2), (0, .ref a0), (1, .ref a1)]) hx hb (zat zrX12_goesBy_1_ok 24 rfl) hl (k := 0) rfl rfl (by decide) rfl (fun ls hl => ?_)
            refine lv_goto (tgt := 4) hx hb (zat zrX12_goesBy_1_ok 25 rfl) (by decide) ?_
            exact ih4 (v4_l3 + (1 : Int32)) v143_l2 v143_m_w v143_m_c H _ ls h  (hP.sub (ws' := ((a0, .inr (9, [g7, g8, g9, .ref a2, g10, g11, g12, g13, g14, g15, g16, g17, g18, g19, g20, g21, .ref a1, g22, g23, g24, g25, g26, g27, g28, g29, g30, g31, .int v143_m_c.1, .int v143_m_c.2.1, .int v143_m_c.2.2])) :: bX11 a2 uq kq q_q ([(a1, .inl (cB33, 26, .inl v143_m_w))]))) [0, 2, 3, 4, 5, 6, 7, 8, 9, 10, 11, 12, 13, 14, 15, 16, 1] rfl) (hD.sub (ws' := ((a0, .inr (9, [g7, g8, g9, .ref a2, g10, g11, g12, g13, g14, g15, g16, g17, g18, g19, g20, g21, .ref a1, g22, g23, g24, g25, g26, g27, g28, g29, g30, g31, .int v143_m_c.1, .int v143_m_c.2.1, .int v143_m_c.2.2])) :: bX11 a2 uq kq q_q ([(a1, .inl (cB33, 26, .inl v143_m_w))]))) [0, 2, 3, 4, 5, 6, 7, 8, 9, 10, 11, 12, 13, 14, 15, 16, 1] (by decide) rfl) hS (lv_sub hl [0, 1, 2, 3] rfl)
          refine lv_icmp_eq (tgt := 143) hx hb (zat zrX12_goesBy_0_ok 22 rfl) (by decide) (fun c37 => ?_) (fun c37 => ?_)
          · have h := (if_pos c37).symm.trans h
            exact J143 v4_l2 v4_m_w v4_m_c H _ ls h  hP hD hS (lv_sub hl [0, 1, 2, 3] rfl)
          · have h := (if_neg c37).symm.trans h
            refine lv_aload_n hx hb (zat zrX12_goesBy_0_ok 23 rfl) rfl (lv_at hl 2 rfl) ?_
            refine lv_aload_n hx hb (zat zrX12_goesBy_0_ok 24 rfl) rfl (lv_at hl 3 rfl) ?_
            refine lv_iload_n hx hb (zat zrX12_goesBy_0_ok 25 rfl) rfl (lv_at hl 0 rfl) ?_
            obtain ⟨o43, eo43, h⟩ := bd_of h
            refine ck_i (wc := ((a0, .inr (9, [g7, g8, g9, .ref a2, g10, g11, g12, g13, g14, g15, g16, g17, g18, g19, g20, g21, .ref a1, g22, g23, g24, g25, g26, g27, g28, g29, g30, g31, .int v4_m_c.1, .int v4_m_c.2.1, .int v4_m_c.2.2])) :: bX11 a2 uq kq q_q ([(a1, .inl (cB33, 26, .inl v4_m_w))]))) (wr := []) hP hD hK hS hA [0, 2, 3, 4, 5, 6, 7, 8, 9, 10, 11, 12, 13, 14, 15, 16, 1] [] rfl rfl (by decide) (by decide) (by decide) (fun hPc hDc => (va_runV (As := [.ref a1, .int v4_l3]) (rest := []) ⟨hx, hb, hml, hown, hts⟩ (kfX12_isTangled_x l dC dI a0 a1 v4_l3 a2 uq kq v4_m_w (g7) (g8) (g9) (g10) (g11) (g12) (g13) (g14) (g15) (g16) (g17) (g18) (g19) (g20) (g21) (g22) (g23) (g24) (g25) (g26) (g27) (g28) (g29) (g30) (g31) (.int v4_m_c.1) (.int v4_m_c.2.1) (.int v4_m_c.2.2) q_q cB33 H.size o43 eo43) (cwV 2 hts gfX12_goesBy_x_1 rfl rfl rfl (by decide +kernel) ⟨(Nat.le_of_ble_eq_true rfl), (Nat.le_of_ble_eq_true rfl)⟩) (PV hPc (hK.sub (tys' := (tX11 kq ((cB33, .int) :: []))) [0, 1, 2, 3, 4, 5, 6, 7, 8, 9, 10, 11, 12, 13, 14] rfl) hDc hN 0 rfl rfl) rfl rfl hl.1 rfl (lv_room (Nat.le_of_ble_eq_true rfl)) (zat zrX12_goesBy_0_ok 26 rfl) ⟨(Nat.le_of_ble_eq_true rfl), (Nat.le_of_ble_eq_true rfl)⟩)) (fun r43 _ H locs hw hP hD _ hS => ?_)
            obtain ⟨hw, br43⟩ := hw
            obtain rfl := hw.symm
            obtain ⟨hP, hD⟩ := pd_mk ((a0, .inr (9, [g7, g8, g9, .ref a2, g10, g11, g12, g13, g14, g15, g16, g17, g18, g19, g20, g21, .ref a1, g22, g23, g24, g25, g26, g27, g28, g29, g30, g31, .int v4_m_c.1, .int v4_m_c.2.1, .int v4_m_c.2.2])) :: bX11 a2 uq kq q_q ([(a1, .inl (cB33, 26, .inl v4_m_w))])) hP hD
            refine lv_if_eq (tgt := 52) hx hb (zat zrX12_goesBy_0_ok 27 rfl) (by decide) (fun c46 => ?_) (fun c46 => ?_)
            · have h := (if_pos c46).symm.trans h
              refine lv_aload_n hx hb (zat zrX12_goesBy_0_ok 29 rfl) rfl (lv_at hl 2 rfl) ?_
              refine lv_aload_n hx hb (zat zrX12_goesBy_0_ok 30 rfl) rfl (lv_at hl 3 rfl) ?_
              refine lv_aload_n hx hb (zat zrX12_goesBy_0_ok 31 rfl) rfl (lv_at hl 3 rfl) ?_
              refine lv_bipush (v := 18) hx hb (zat zrX12_goesBy_0_ok 32 rfl) (by decide) ?_
              refine lv_iload_n hx hb (zat zrX12_goesBy_0_ok 33 rfl) rfl (lv_at hl 0 rfl) ?_
              refine lv_iadd hx hb (zat zrX12_goesBy_0_ok 34 rfl) ?_
              obtain ⟨hg59, h⟩ := gA_of h
              refine va_iald hx hb hK hP 16 14 rfl rfl hg59 (zat zrX12_goesBy_0_ok 35 rfl) ?_
              obtain ⟨o60, eo60, h⟩ := bd_of h
              refine ck_i (wc := ((a0, .inr (9, [g7, g8, g9, .ref a2, g10, g11, g12, g13, g14, g15, g16, g17, g18, g19, g20, g21, .ref a1, g22, g23, g24, g25, g26, g27, g28, g29, g30, g31, .int v4_m_c.1, .int v4_m_c.2.1, .int v4_m_c.2.2])) :: bX11 a2 uq kq q_q ([(a1, .inl (cB33, 26, .inl v4_m_w))]))) (wr := []) hP hD hK hS hA [0, 1, 2, 3, 4, 5, 6, 7, 8, 9, 10, 11, 12, 13, 14, 15, 16] [] rfl rfl (by decide) (by decide) (by decide) (fun hPc hDc => (va_runV (As := [.ref a1, .int (v4_m_w (((18 : Int32) + v4_l3)).toNatClampNeg)]) (rest := []) ⟨hx, hb, hml, hown, hts⟩ (kfX12_taker_x l dC dI a0 a1 (v4_m_w (((18 : Int32) + v4_l3)).toNatClampNeg) a2 uq kq v4_m_w (g7) (g8) (g9) (g10) (g11) (g12) (g13) (g14) (g15) (g16) (g17) (g18) (g19) (g20) (g21) (g22) (g23) (g24) (g25) (g26) (g27) (g28) (g29) (g30) (g31) (.int v4_m_c.1) (.int v4_m_c.2.1) (.int v4_m_c.2.2) q_q cB33 H.size o60 eo60) (cwV 2 hts gfX12_goesBy_x_2 rfl rfl rfl (by decide +kernel) ⟨(Nat.le_of_ble_eq_true rfl), (Nat.le_of_ble_eq_true rfl)⟩) (PV hPc (hK.sub (tys' := (tX11 kq ((cB33, .int) :: []))) [0, 1, 2, 3, 4, 5, 6, 7, 8, 9, 10, 11, 12, 13, 14] rfl) hDc hN 0 rfl rfl) rfl rfl hl.1 rfl (lv_room (Nat.le_of_ble_eq_true rfl)) (zat zrX12_goesBy_0_ok 36 rfl) ⟨(Nat.le_of_ble_eq_true rfl), (Nat.le_of_ble_eq_true rfl)⟩)) (fun r60 _ H locs hw hP hD _ hS => ?_)
              obtain rfl := hw
              obtain ⟨hP, hD⟩ := pd_mk ((a0, .inr (9, [g7, g8, g9, .ref a2, g10, g11, g12, g13, g14, g15, g16, g17, g18, g19, g20, g21, .ref a1, g22, g23, g24, g25, g26, g27, g28, g29, g30, g31, .int v4_m_c.1, .int v4_m_c.2.1, .int v4_m_c.2.2])) :: bX11 a2 uq kq q_q ([(a1, .inl (cB33, 26, .inl o60.2))])) hP hD
              refine lv_istore (lv' := [(4, .int o60.1), (3, .int v4_l3), (2, .int v4_l2), (0, .ref a0), (1, .ref a1)]) hx hb (zat zrX12_goesBy_0_ok 37 rfl) hl (by decide) rfl (fun ls hl => ?_)
              refine lv_iload hx hb (zat zrX12_goesBy_0_ok 38 rfl) (lv_at hl 0 rfl) ?_
              refine lv_bipush (v := (-2)) hx hb (zat zrX12_goesBy_0_ok 39 rfl) (by decide) ?_
              refine lv_icmp_ne (tgt := 75) hx hb (zat zrX12_goesBy_0_ok 40 rfl) (by decide) (fun c69 => ?_) (fun c69 => ?_)
              · have h := (if_neg c69).symm.trans h
                refine lv_aload_n hx hb (zat zrX12_goesBy_0_ok 42 rfl) rfl (lv_at hl 4 rfl) ?_
                refine lv_bipush (v := 18) hx hb (zat zrX12_goesBy_0_ok 43 rfl) (by decide) ?_
                refine lv_iload_n hx hb (zat zrX12_goesBy_0_ok 44 rfl) rfl (lv_at hl 1 rfl) ?_
                refine lv_iadd hx hb (zat zrX12_goesBy_0_ok 45 rfl) ?_
                refine lv_bipush (v := (-2)) hx hb (zat zrX12_goesBy_0_ok 46 rfl) (by decide) ?_
                obtain ⟨hg82, h⟩ := gA_of h
                refine va_iast hx hb hK hP hD hS 16 14 rfl rfl hg82 (zat zrX12_goesBy_0_ok 47 rfl) (fun H locs hP hD hS => ?_)
                obtain ⟨hP, hD⟩ := pd_mk ((a0, .inr (9, [g7, g8, g9, .ref a2, g10, g11, g12, g13, g14, g15, g16, g17, g18, g19, g20, g21, .ref a1, g22, g23, g24, g25, g26, g27, g28, g29, g30, g31, .int v4_m_c.1, .int v4_m_c.2.1, .int v4_m_c.2.2])) :: bX11 a2 uq kq q_q ([(a1, .inl (cB33, 26, .inl (upd o60.2 (((18 : Int32) + v4_l3)).toNatClampNeg (-2 : Int32))))])) hP hD
                refine lv_aload_n hx hb (zat zrX12_goesBy_0_ok 48 rfl) rfl (lv_at hl 3 rfl) ?_
                refine va_get (D := (dC, dI)) (ci := 9) (v := .ref a2) (C := RX12) (T := TX12) (N := 30) hx hb hts ifX12_goesBy_x_X12 hown hK hP 0 rfl rfl 3 (by decide) (hts (.fieldLink RX12 299 "HookPierModel" "pier" "LHookPierModel$Pier;") (List.mem_of_getElem? (i := 1) rfl)) (fun _ h9 => h9) rfl (zat zrX12_goesBy_0_ok 49 rfl) ?_
                refine va_getN (D := (dC, dI)) (ci := 8) (v := .ref (uq 1)) (C := RX11) (T := TX11) (N := 24) hx hb hts ifX12_goesBy_x_X11 hown hK hP 1 rfl rfl 11 (by decide) (va_Nw.use rfl (hN.1 (.fieldLinkNest RX12 256 "HookPierModel$Pier" "kind" "[I" "HookPierModel") (List.mem_of_getElem? (i := 33) rfl))) (fun _ h9 => h9) rfl (zat zrX12_goesBy_0_ok 50 rfl) ?_
                refine lv_iload hx hb (zat zrX12_goesBy_0_ok 51 rfl) (lv_at hl 0 rfl) ?_
                obtain ⟨hg92, h⟩ := gA_of h
                refine va_iald hx hb hK hP 3 1 rfl rfl hg92 (zat zrX12_goesBy_0_ok 52 rfl) ?_
                refine lv_iconst (v := 2) hx hb (zat zrX12_goesBy_0_ok 53 rfl) (by decide) ?_
                refine lv_icmp_ne (tgt := 110) hx hb (zat zrX12_goesBy_0_ok 54 rfl) (by decide) (fun c94 => ?_) (fun c94 => ?_)
                · have h := (if_neg c94).symm.trans h
                  refine lv_aload_n hx hb (zat zrX12_goesBy_0_ok 62 rfl) rfl (lv_at hl 4 rfl) ?_
                  refine lv_iconst (v := 0) hx hb (zat zrX12_goesBy_0_ok 63 rfl) (by decide) ?_
                  refine lv_iload hx hb (zat zrX12_goesBy_1_ok 0 rfl) (lv_at hl 0 rfl) ?_
                  refine lv_iadd hx hb (zat zrX12_goesBy_1_ok 1 rfl) ?_
                  refine lv_iconst (v := 1) hx hb (zat zrX12_goesBy_1_ok 2 rfl) (by decide) ?_
                  obtain ⟨hg116, h⟩ := gA_of h
                  refine va_iast hx hb hK hP hD hS 16 14 rfl rfl hg116 (zat zrX12_goesBy_1_ok 3 rfl) (fun H locs hP hD hS => ?_)
                  obtain ⟨hP, hD⟩ := pd_mk ((a0, .inr (9, [g7, g8, g9, .ref a2, g10, g11, g12, g13, g14, g15, g16, g17, g18, g19, g20, g21, .ref a1, g22, g23, g24, g25, g26, g27, g28, g29, g30, g31, .int v4_m_c.1, .int v4_m_c.2.1, .int v4_m_c.2.2])) :: bX11 a2 uq kq q_q ([(a1, .inl (cB33, 26, .inl (upd (upd o60.2 (((18 : Int32) + v4_l3)).toNatClampNeg (-2 : Int32)) (((0 : Int32) + o60.1)).toNatClampNeg (1 : Int32))))])) hP hD
                  refine lv_aload_n hx hb (zat zrX12_goesBy_1_ok 4 rfl) rfl (lv_at hl 4 rfl) ?_
                  refine lv_bipush (v := 6) hx hb (zat zrX12_goesBy_1_ok 5 rfl) (by decide) ?_
                  refine lv_iload hx hb (zat zrX12_goesBy_1_ok 6 rfl) (lv_at hl 0 rfl) ?_
                  refine lv_iadd hx hb (zat zrX12_goesBy_1_ok 7 rfl) ?_
                  refine lv_aload_n hx hb (zat zrX12_goesBy_1_ok 8 rfl) rfl (lv_at hl 4 rfl) ?_
                  refine lv_bipush (v := 23) hx hb (zat zrX12_goesBy_1_ok 9 rfl) (by decide) ?_
                  refine va_iald hx hb hK hP 16 14 rfl rfl (by unfold vp_in; decide) (zat zrX12_goesBy_1_ok 10 rfl) ?_
                  refine lv_topi (fun z126 ez126 => ?_)
                  have h := nm_of h z126 ez126
                  obtain ⟨hg127, h⟩ := gA_of h
                  refine va_iast hx hb hK hP hD hS 16 14 rfl rfl hg127 (zat zrX12_goesBy_1_ok 11 rfl) (fun H locs hP hD hS => ?_)
                  obtain ⟨hP, hD⟩ := pd_mk ((a0, .inr (9, [g7, g8, g9, .ref a2, g10, g11, g12, g13, g14, g15, g16, g17, g18, g19, g20, g21, .ref a1, g22, g23, g24, g25, g26, g27, g28, g29, g30, g31, .int v4_m_c.1, .int v4_m_c.2.1, .int v4_m_c.2.2])) :: bX11 a2 uq kq q_q ([(a1, .inl (cB33, 26, .inl (upd (upd (upd o60.2 (((18 : Int32) + v4_l3)).toNatClampNeg (-2 : Int32)) (((0 : Int32) + o60.1)).toNatClampNeg (1 : Int32)) (((6 : Int32) + o60.1)).toNatClampNeg z126)))])) hP hD
                  refine lv_aload_n hx hb (zat zrX12_goesBy_1_ok 12 rfl) rfl (lv_at hl 4 rfl) ?_
                  refine lv_bipush (v := 12) hx hb (zat zrX12_goesBy_1_ok 13 rfl) (by decide) ?_
                  refine lv_iload hx hb (zat zrX12_goesBy_1_ok 14 rfl) (lv_at hl 0 rfl) ?_
                  refine lv_iadd hx hb (zat zrX12_goesBy_1_ok 15 rfl) ?_
                  refine lv_iload_n hx hb (zat zrX12_goesBy_1_ok 16 rfl) rfl (lv_at hl 1 rfl) ?_
                  obtain ⟨hg135, h⟩ := gA_of h
                  refine va_iast hx hb hK hP hD hS 16 14 rfl rfl hg135 (zat zrX12_goesBy_1_ok 17 rfl) (fun H locs hP hD hS => ?_)
                  obtain ⟨hP, hD⟩ := pd_mk ((a0, .inr (9, [g7, g8, g9, .ref a2, g10, g11, g12, g13, g14, g15, g16, g17, g18, g19, g20, g21, .ref a1, g22, g23, g24, g25, g26, g27, g28, g29, g30, g31, .int v4_m_c.1, .int v4_m_c.2.1, .int v4_m_c.2.2])) :: bX11 a2 uq kq q_q ([(a1, .inl (cB33, 26, .inl (upd (upd (upd (upd o60.2 (((18 : Int32) + v4_l3)).toNatClampNeg (-2 : Int32)) (((0 : Int32) + o60.1)).toNatClampNeg (1 : Int32)) (((6 : Int32) + o60.1)).toNatClampNeg z126) (((12 : Int32) + o60.1)).toNatClampNeg v4_l3)))])) hP hD
                  refine lv_iload_n hx hb (zat zrX12_goesBy_1_ok 18 rfl) rfl (lv_at hl 2 rfl) ?_
                  refine lv_iconst (v := 1) hx hb (zat zrX12_goesBy_1_ok 19 rfl) (by decide) ?_
                  refine lv_iload hx hb (zat zrX12_goesBy_1_ok 20 rfl) (lv_at hl 0 rfl) ?_
                  refine lv_ishl hx hb (zat zrX12_goesBy_1_ok 21 rfl) ?_
                  refine lv_ior hx hb (zat zrX12_goesBy_1_ok 22 rfl) ?_
                  refine lv_istore_n (lv' := [(2, .int (v4_l2 ||| ((1 : Int32) <<< (o60.1 &&& 31)))), (4, .int o60.1), (3, .int v4_l3), (0, .ref a0), (1, .ref a1)]) hx hb (zat zrX12_goesBy_1_ok 23 rfl) rfl hl (by decide) rfl (fun ls hl => ?_)
                  exact J143 (v4_l2 ||| ((1 : Int32) <<< (o60.1 &&& 31))) (upd (upd (upd (upd o60.2 (((18 : Int32) + v4_l3)).toNatClampNeg (-2 : Int32)) (((0 : Int32) + o60.1)).toNatClampNeg (1 : Int32)) (((6 : Int32) + o60.1)).toNatClampNeg z126) (((12 : Int32) + o60.1)).toNatClampNeg v4_l3) v4_m_c H _ ls h  (hP.sub (ws' := ((a0, .inr (9, [g7, g8, g9, .ref a2, g10, g11, g12, g13, g14, g15, g16, g17, g18, g19, g20, g21, .ref a1, g22, g23, g24, g25, g26, g27, g28, g29, g30, g31, .int v4_m_c.1, .int v4_m_c.2.1, .int v4_m_c.2.2])) :: (a1, .inl (cB33, 26, .inl (upd (upd (upd (upd o60.2 (((18 : Int32) + v4_l3)).toNatClampNeg (-2 : Int32)) (((0 : Int32) + o60.1)).toNatClampNeg (1 : Int32)) (((6 : Int32) + o60.1)).toNatClampNeg z126) (((12 : Int32) + o60.1)).toNatClampNeg v4_l3))) :: bX11 a2 uq kq q_q [])) [0, 16, 1, 2, 3, 4, 5, 6, 7, 8, 9, 10, 11, 12, 13, 14, 15] rfl) (hD.sub (ws' := ((a0, .inr (9, [g7, g8, g9, .ref a2, g10, g11, g12, g13, g14, g15, g16, g17, g18, g19, g20, g21, .ref a1, g22, g23, g24, g25, g26, g27, g28, g29, g30, g31, .int v4_m_c.1, .int v4_m_c.2.1, .int v4_m_c.2.2])) :: (a1, .inl (cB33, 26, .inl (upd (upd (upd (upd o60.2 (((18 : Int32) + v4_l3)).toNatClampNeg (-2 : Int32)) (((0 : Int32) + o60.1)).toNatClampNeg (1 : Int32)) (((6 : Int32) + o60.1)).toNatClampNeg z126) (((12 : Int32) + o60.1)).toNatClampNeg v4_l3))) :: bX11 a2 uq kq q_q [])) [0, 16, 1, 2, 3, 4, 5, 6, 7, 8, 9, 10, 11, 12, 13, 14, 15] (by decide) rfl) hS (lv_sub hl [2, 0, 3, 4] rfl)
                · have h := (if_pos c94).symm.trans h
                  refine lv_aload_n hx hb (zat zrX12_goesBy_0_ok 55 rfl) rfl (lv_at hl 3 rfl) ?_
                  refine lv_dup hx hb (zat zrX12_goesBy_0_ok 56 rfl) rfl ?_
                  refine va_get (D := (dC, dI)) (ci := 9) (v := .int v4_m_c.1) (C := RX12) (T := TX12) (N := 30) hx hb hts ifX12_goesBy_x_X12 hown hK hP 0 rfl rfl 27 (by decide) (hts (.fieldLink RX12 473 "HookPierModel" "crabsNow" "I") (List.mem_of_getElem? (i := 13) rfl)) (fun _ h9 => h9) rfl (zat zrX12_goesBy_0_ok 57 rfl) ?_
                  refine lv_iconst (v := 1) hx hb (zat zrX12_goesBy_0_ok 58 rfl) (by decide) ?_
                  refine lv_iadd hx hb (zat zrX12_goesBy_0_ok 59 rfl) ?_
                  refine va_put (D := (dC, dI)) (ci := 9) (v := .int (v4_m_c.1 + (1 : Int32))) (ty := .int) (C := RX12) (T := TX12) (N := 30) hx hb hts ifX12_goesBy_x_X12 tyX12 tyX12_ok nmX12 hown hK hP hD hS 0 rfl rfl 27 (by decide) (hts (.fieldLink RX12 473 "HookPierModel" "crabsNow" "I") (List.mem_of_getElem? (i := 13) rfl)) (fun _ h9 => h9) rfl (by decide +kernel) rfl rfl (Nat.le_of_ble_eq_true rfl) (zat zrX12_goesBy_0_ok 60 rfl) (fun H locs hP hD hS => ?_)
                  obtain ⟨hP, hD⟩ := pd_mk ((a0, .inr (9, [g7, g8, g9, .ref a2, g10, g11, g12, g13, g14, g15, g16, g17, g18, g19, g20, g21, .ref a1, g22, g23, g24, g25, g26, g27, g28, g29, g30, g31, .int (v4_m_c.1 + (1 : Int32)), .int v4_m_c.2.1, .int v4_m_c.2.2])) :: bX11 a2 uq kq q_q ([(a1, .inl (cB33, 26, .inl (upd o60.2 (((18 : Int32) + v4_l3)).toNatClampNeg (-2 : Int32))))])) hP hD
                  refine lv_goto (tgt := 143) hx hb (zat zrX12_goesBy_0_ok 61 rfl) (by decide) ?_
                  exact J143 v4_l2 (upd o60.2 (((18 : Int32) + v4_l3)).toNatClampNeg (-2 : Int32)) ((v4_m_c.1 + (1 : Int32)), v4_m_c.2) H _ ls h  (hP.sub (ws' := ((a0, .inr (9, [g7, g8, g9, .ref a2, g10, g11, g12, g13, g14, g15, g16, g17, g18, g19, g20, g21, .ref a1, g22, g23, g24, g25, g26, g27, g28, g29, g30, g31, .int (v4_m_c.1 + (1 : Int32)), .int v4_m_c.2.1, .int v4_m_c.2.2])) :: (a1, .inl (cB33, 26, .inl (upd o60.2 (((18 : Int32) + v4_l3)).toNatClampNeg (-2 : Int32)))) :: bX11 a2 uq kq q_q [])) [0, 16, 1, 2, 3, 4, 5, 6, 7, 8, 9, 10, 11, 12, 13, 14, 15] rfl) (hD.sub (ws' := ((a0, .inr (9, [g7, g8, g9, .ref a2, g10, g11, g12, g13, g14, g15, g16, g17, g18, g19, g20, g21, .ref a1, g22, g23, g24, g25, g26, g27, g28, g29, g30, g31, .int (v4_m_c.1 + (1 : Int32)), .int v4_m_c.2.1, .int v4_m_c.2.2])) :: (a1, .inl (cB33, 26, .inl (upd o60.2 (((18 : Int32) + v4_l3)).toNatClampNeg (-2 : Int32)))) :: bX11 a2 uq kq q_q [])) [0, 16, 1, 2, 3, 4, 5, 6, 7, 8, 9, 10, 11, 12, 13, 14, 15] (by decide) rfl) hS (lv_sub hl [1, 2, 3, 4] rfl)
              · have h := (if_pos c69).symm.trans h
                refine lv_goto (tgt := 143) hx hb (zat zrX12_goesBy_0_ok 41 rfl) (by decide) ?_
                exact J143 v4_l2 o60.2 v4_m_c H _ ls h  (hP.sub (ws' := ((a0, .inr (9, [g7, g8, g9, .ref a2, g10, g11, g12, g13, g14, g15, g16, g17, g18, g19, g20, g21, .ref a1, g22, g23, g24, g25, g26, g27, g28, g29, g30, g31, .int v4_m_c.1, .int v4_m_c.2.1, .int v4_m_c.2.2])) :: (a1, .inl (cB33, 26, .inl o60.2)) :: bX11 a2 uq kq q_q [])) [0, 16, 1, 2, 3, 4, 5, 6, 7, 8, 9, 10, 11, 12, 13, 14, 15] rfl) (hD.sub (ws' := ((a0, .inr (9, [g7, g8, g9, .ref a2, g10, g11, g12, g13, g14, g15, g16, g17, g18, g19, g20, g21, .ref a1, g22, g23, g24, g25, g26, g27, g28, g29, g30, g31, .int v4_m_c.1, .int v4_m_c.2.1, .int v4_m_c.2.2])) :: (a1, .inl (cB33, 26, .inl o60.2)) :: bX11 a2 uq kq q_q [])) [0, 16, 1, 2, 3, 4, 5, 6, 7, 8, 9, 10, 11, 12, 13, 14, 15] (by decide) rfl) hS (lv_sub hl [1, 2, 3, 4] rfl)
            · have h := (if_neg c46).symm.trans h
              refine lv_goto (tgt := 143) hx hb (zat zrX12_goesBy_0_ok 28 rfl) (by decide) ?_
              exact J143 v4_l2 v4_m_w v4_m_c H _ ls h  (hP.sub (ws' := ((a0, .inr (9, [g7, g8, g9, .ref a2, g10, g11, g12, g13, g14, g15, g16, g17, g18, g19, g20, g21, .ref a1, g22, g23, g24, g25, g26, g27, g28, g29, g30, g31, .int v4_m_c.1, .int v4_m_c.2.1, .int v4_m_c.2.2])) :: (a1, .inl (cB33, 26, .inl v4_m_w)) :: bX11 a2 uq kq q_q [])) [0, 16, 1, 2, 3, 4, 5, 6, 7, 8, 9, 10, 11, 12, 13, 14, 15] rfl) (hD.sub (ws' := ((a0, .inr (9, [g7, g8, g9, .ref a2, g10, g11, g12, g13, g14, g15, g16, g17, g18, g19, g20, g21, .ref a1, g22, g23, g24, g25, g26, g27, g28, g29, g30, g31, .int v4_m_c.1, .int v4_m_c.2.1, .int v4_m_c.2.2])) :: (a1, .inl (cB33, 26, .inl v4_m_w)) :: bX11 a2 uq kq q_q [])) [0, 16, 1, 2, 3, 4, 5, 6, 7, 8, 9, 10, 11, 12, 13, 14, 15] (by decide) rfl) hS (lv_sub hl [0, 1, 2, 3] rfl)
  exact L4 FU (0 : Int32) (0 : Int32) m_w m_c s.heap _ ls h  hP hD hS (lv_sub hl [0, 1, 2, 3] rfl)
noncomputable def zrX12_days_0 : List ZR := zc 0 true (.aload_n 0) 1 (zc 1 true (.invokevirtual 476) 3 (zc 4 true (.aload_n 0) 1 (zc 5 true (.getfield 21) 3 (zc 8 true (.bipush 24) 2 (zc 10 true (.iload_n 1) 1 (zc 11 true (.iastore) 1 (zc 12 true (.aload_n 0) 1 (zc 13 true (.iconst 0) 1 (zc 14 true (.putfield 473) 3 (zc 17 true (.aload_n 0) 1 (zc 18 true (.iconst 0) 1 (zc 19 true (.putfield 479) 3 (zc 22 true (.aload_n 0) 1 (zc 23 true (.iconst 0) 1 (zc 24 true (.putfield 482) 3 (zc 27 true (.iconst 1) 1 (zc 28 true (.istore 4) 2 (zc 30 true (.iload 4) 2 (zc 32 true (.iload_n 2) 1 (zc 33 true (.if_icmp .gt 83) 3 (zc 36 true (.iconst 0) 1 (zc 37 true (.istore 5) 2 (zc 39 true (.iload 5) 2 (zc 41 true (.iconst 5) 1 (zc 42 true (.if_icmp .ge 29) 3 (zc 45 true (.aload_n 0) 1 (zc 46 true (.getfield 21) 3 (zc 49 true (.bipush 18) 2 (zc 51 true (.iload 5) 2 (zc 53 true (.iadd) 1 (zc 54 true (.aload_n 0) 1 (zc 55 true (.getfield 17) 3 (zc 58 true (.bipush 18) 2 (zc 60 true (.iload 5) 2 (zc 62 true (.iadd) 1 (zc 63 true (.iaload) 1 (zc 64 true (.iastore) 1 (zc 65 true (.iinc 5 1) 3 (zc 68 true (.goto (-29)) 3 (zc 71 true (.aload_n 0) 1 (zc 72 true (.aload_n 0) 1 (zc 73 true (.getfield 21) 3 (zc 76 true (.invokevirtual 485) 3 (zc 79 true (.istore 5) 2 (zc 81 true (.aload_n 0) 1 (zc 82 true (.dup) 1 (zc 83 true (.getfield 479) 3 (zc 86 true (.iload 5) 2 (zc 88 true (.invokestatic 411) 3 (zc 91 true (.iadd) 1 (zc 92 true (.putfield 479) 3 (zc 95 true (.iload 5) 2 (zc 97 true (.iload_n 3) 1 (zc 98 true (.invokestatic 390) 3 (zc 101 true (.ifCond .eq 9) 3 (zc 104 true (.aload_n 0) 1 (zc 105 true (.iload 4) 2 (zc 107 true (.putfield 482) 3 (zc 110 true (.iinc 4 1) 3 (zc 113 true (.goto (-83)) 3 (zc 116 true (.return_) 1 ([]))))))))))))))))))))))))))))))))))))))))))))))))))))))))))))))
theorem zrX12_days_0_ok : zck 0 ((zby cX12_days).drop 0) zrX12_days_0 = true := by decide +kernel
def vfX12_days : List Cond := List.cons (.code yX12_days cX12_days 6 none) (apW [.methodLink RX12 476 yX12_tries, .instanceMethod yX12_tries, .selects RX12 yX12_tries yX12_tries, .initialized RX12, .fieldLink RX12 21 "HookPierModel" "x" "[I", .fieldLink RX12 473 "HookPierModel" "crabsNow" "I", .fieldLink RX12 479 "HookPierModel" "landedNow" "I", .fieldLink RX12 482 "HookPierModel" "landedWhen" "I", .methodLink RX12 485 yX12_goesBy, .instanceMethod yX12_goesBy, .selects RX12 yX12_goesBy yX12_goesBy, .methodLink RX12 411 yX12_bits, .static yX12_bits, .methodLink RX12 390 yX12_bit, .static yX12_bit, .fieldLink RX12 17 "HookPierModel" "v" "[I"] (apW wsX120 (apW vfX12_tries (apW vfX12_goesBy_x (apW vfX12_bits (vfX12_bit))))))
theorem ifX12_days_X12 : ∀ w ∈ wsX120, w ∈ vfX12_days := fun _ h => (List.mem_cons_of_mem _ (List.mem_append_right _ (List.mem_append_left _ h)))
theorem qfX12_days : Good vfX12_days := gd_cons (by decide +kernel) (gd_app (gd_dec (by decide +kernel) : Good [.methodLink RX12 476 yX12_tries, .instanceMethod yX12_tries, .selects RX12 yX12_tries yX12_tries, .initialized RX12, .fieldLink RX12 21 "HookPierModel" "x" "[I", .fieldLink RX12 473 "HookPierModel" "crabsNow" "I", .fieldLink RX12 479 "HookPierModel" "landedNow" "I", .fieldLink RX12 482 "HookPierModel" "landedWhen" "I", .methodLink RX12 485 yX12_goesBy, .instanceMethod yX12_goesBy, .selects RX12 yX12_goesBy yX12_goesBy, .methodLink RX12 411 yX12_bits, .static yX12_bits, .methodLink RX12 390 yX12_bit, .static yX12_bit, .fieldLink RX12 17 "HookPierModel" "v" "[I"]) (gd_app qsX12 (gd_app qfX12_tries (gd_app qfX12_goesBy_x (gd_app qfX12_bits qfX12_bit)))))
theorem gfX12_days_0 : GoodIn vfX12_days (wsV RX12 476 RX12 yX12_tries vfX12_tries) := goodIn_app (goodIn_r [.methodLink RX12 476 yX12_tries, .instanceMethod yX12_tries, .selects RX12 yX12_tries yX12_tries, .initialized RX12] [1, 2, 3, 4] rfl (by decide +kernel)) (goodIn_m (fun _ h => (List.mem_cons_of_mem _ (List.mem_append_right _ (List.mem_append_right _ (List.mem_append_left _ h))))) qfX12_tries)
theorem gfX12_days_1 : GoodIn vfX12_days (wsV RX12 485 RX12 yX12_goesBy vfX12_goesBy_x) := goodIn_app (goodIn_r [.methodLink RX12 485 yX12_goesBy, .instanceMethod yX12_goesBy, .selects RX12 yX12_goesBy yX12_goesBy, .initialized RX12] [9, 10, 11, 4] rfl (by decide +kernel)) (goodIn_m (fun _ h => (List.mem_cons_of_mem _ (List.mem_append_right _ (List.mem_append_right _ (List.mem_append_right _ (List.mem_append_left _ h)))))) qfX12_goesBy_x)
theorem gfX12_days_2 : GoodIn vfX12_days (va_wsS RX12 411 yX12_bits vfX12_bits) := goodIn_app (goodIn_r [.methodLink RX12 411 yX12_bits, .static yX12_bits, .initialized RX12] [12, 13, 4] rfl (by decide +kernel)) (goodIn_m (fun _ h => (List.mem_cons_of_mem _ (List.mem_append_right _ (List.mem_append_right _ (List.mem_append_right _ (List.mem_append_right _ (List.mem_append_left _ h))))))) qfX12_bits)
theorem gfX12_days_3 : GoodIn vfX12_days (va_wsS RX12 390 yX12_bit vfX12_bit) := goodIn_app (goodIn_r [.methodLink RX12 390 yX12_bit, .static yX12_bit, .initialized RX12] [14, 15, 4] rfl (by decide +kernel)) (goodIn_m (fun _ h => (List.mem_cons_of_mem _ (List.mem_append_right _ (List.mem_append_right _ (List.mem_append_right _ (List.mem_append_right _ (List.mem_append_right _ h))))))) qfX12_bit)
set_option maxHeartbeats 2000000 in
set_option maxRecDepth 100000 in
theorem kfX12_days (l : Launch) (dC : Nat → ClassId) (dI : Nat → Nat → Nat) (a0 : Nat) (k1 : Int32) (k2 : Int32) (k3 : Int32) (a4 : Nat) (a5 : Nat) (a6 : Nat) (uq : Nat → Nat) (kq : Nat → ClassId) (m_v : TX12_v) (m_w : TX12_w) (m_c : TX12_c) (g12 : Value) (g13 : Value) (g14 : Value) (g15 : Value) (g16 : Value) (g17 : Value) (g18 : Value) (g19 : Value) (g20 : Value) (g21 : Value) (g22 : Value) (g23 : Value) (g24 : Value) (g25 : Value) (g26 : Value) (g27 : Value) (g28 : Value) (g29 : Value) (g30 : Value) (g31 : Value) (g32 : Value) (g33 : Value) (g34 : Value) (g35 : Value) (q_q : TX11_q) (cB37 : ClassId) (cB38 : ClassId) (sz : Nat) (out : (TX12_w × TX12_c)) (h : f_X12_days k1 k2 k3 m_v m_w m_c q_q = some out) : KCv l yX12_days vfX12_days ({ frames := 6, cells := 0, slots := 0, locals := 140 }) (dC, dI) [.ref a0, .int k1, .int k2, .int k3] sz ((a0, .inr (9, [g12, g13, g14, .ref a4, g15, g16, g17, g18, g19, g20, g21, g22, g23, g24, g25, .ref a5, .ref a6, g26, g27, g28, g29, g30, g31, g32, g33, g34, g35, .int m_c.1, .int m_c.2.1, .int m_c.2.2])) :: bX11 a4 uq kq q_q ([(a5, .inl (cB37, 26, .inl m_v)), (a6, .inl (cB38, 26, .inl m_w))])) (tX11 kq ((cB37, .int) :: (cB38, .int) :: [])) (fun _ => True) ((a0, .inr (9, [g12, g13, g14, .ref a4, g15, g16, g17, g18, g19, g20, g21, g22, g23, g24, g25, .ref a5, .ref a6, g26, g27, g28, g29, g30, g31, g32, g33, g34, g35, .int out.2.1, .int out.2.2.1, .int out.2.2.2])) :: bX11 a4 uq kq q_q ([(a5, .inl (cB37, 26, .inl m_v)), (a6, .inl (cB38, 26, .inl out.1))])) 0 0 := by
  refine Met.ofW (cc := cX12_days) (maxL := 6) (ret := none) (by decide) rfl ?_
  intro p e s m args below meth c s₁ B0 hml hv
  obtain ⟨rfl, hsz, hP, hK, hD0, hN⟩ := hv
  have hx := B0.exec
  have hb := B0.bytes
  have hr := B0.returns
  have hts := atoms_spec (ws := vfX12_days) B0.pre
  have hown : s.vm.findClass RX12 = some m.cls := findClass_of_methodNamed B0.named
  have hlocks := B0.notSynchronized
  subst hsz
  have hD := hD0.self (sz := s.heap.size)
  generalize hAe : va_A ((a0, .inr (9, [g12, g13, g14, .ref a4, g15, g16, g17, g18, g19, g20, g21, g22, g23, g24, g25, .ref a5, .ref a6, g26, g27, g28, g29, g30, g31, g32, g33, g34, g35, .int m_c.1, .int m_c.2.1, .int m_c.2.2])) :: bX11 a4 uq kq q_q ([(a5, .inl (cB37, 26, .inl m_v)), (a6, .inl (cB38, 26, .inl m_w))])) s.heap.size = A at hD ⊢
  have hA : ∀ q : Nat, s.heap.size ≤ q → A q := fun q h => by rw [← hAe]; exact Or.inr h
  have hS : va_S A s.heap s.heap [] := va_S.rf
  have hP : va_P (dC, dI) vwCl ((a0, .inr (9, [g12, g13, g14, .ref a4, g15, g16, g17, g18, g19, g20, g21, g22, g23, g24, g25, .ref a5, .ref a6, g26, g27, g28, g29, g30, g31, g32, g33, g34, g35, .int m_c.1, .int m_c.2.1, .int m_c.2.2])) :: bX11 a4 uq kq q_q ([(a5, .inl (cB37, 26, .inl m_v)), (a6, .inl (cB38, 26, .inl m_w))])) s.heap := hP
  have hl := lv_entry ([.ref a0, .int k1, .int k2, .int k3]) (n := 6) (Nat.le_of_ble_eq_true rfl)
  rw [lg_entry_eq]
  generalize (lg_sl ([.ref a0, .int k1, .int k2, .int k3]) ++ List.replicate (6 - (lg_sl ([.ref a0, .int k1, .int k2, .int k3])).length) Slot.unset).toArray = ls at hl ⊢
  have hl : lv_has ls 6 [(0, .ref a0), (1, .int k1), (2, .int k2), (3, .int k3)] := hl
  refine W_q (fun QQ hQQ => ?_)
  rw [f_X12_days] at h
  refine lv_aload_n hx hb (zat zrX12_days_0_ok 0 rfl) rfl (lv_at hl 0 rfl) ?_
  obtain ⟨o1, eo1, h⟩ := bd_of h
  refine ck_v (wc := ([(a0, .inr (9, [g12, g13, g14, .ref a4, g15, g16, g17, g18, g19, g20, g21, g22, g23, g24, g25, .ref a5, .ref a6, g26, g27, g28, g29, g30, g31, g32, g33, g34, g35, .int m_c.1, .int m_c.2.1, .int m_c.2.2])), (a5, .inl (cB37, 26, .inl m_v)), (a6, .inl (cB38, 26, .inl m_w))])) (wr := (bX11 a4 uq kq q_q [])) hP hD hK hS hA [0, 16, 17] [1, 2, 3, 4, 5, 6, 7, 8, 9, 10, 11, 12, 13, 14, 15] rfl rfl (by decide) (by decide) (by decide) (fun hPc hDc => (va_runV (As := []) (rest := []) ⟨hx, hb, hml, hown, hts⟩ (kfX12_tries l dC dI a0 a5 a6 m_v m_w (g12) (g13) (g14) (.ref a4) (g15) (g16) (g17) (g18) (g19) (g20) (g21) (g22) (g23) (g24) (g25) (g26) (g27) (g28) (g29) (g30) (g31) (g32) (g33) (g34) (g35) (.int m_c.1) (.int m_c.2.1) (.int m_c.2.2) cB37 cB38 s.heap.size o1 eo1) (cwV 0 hts gfX12_days_0 rfl rfl rfl (by decide +kernel) ⟨(Nat.le_of_ble_eq_true rfl), (Nat.le_of_ble_eq_true rfl)⟩) (PV hPc (hK.sub (tys' := ((cB37, .int) :: (cB38, .int) :: [])) [14, 15] rfl) hDc hN 0 rfl rfl) rfl rfl hl.1 rfl (lv_room (Nat.le_of_ble_eq_true rfl)) (zat zrX12_days_0_ok 1 rfl) ⟨(Nat.le_of_ble_eq_true rfl), (Nat.le_of_ble_eq_true rfl)⟩)) (fun _ H locs hw hP hD _ hS => ?_)
  obtain ⟨hP, hD⟩ := pd_mk (bX11 a4 uq kq q_q ([(a0, .inr (9, [g12, g13, g14, .ref a4, g15, g16, g17, g18, g19, g20, g21, g22, g23, g24, g25, .ref a5, .ref a6, g26, g27, g28, g29, g30, g31, g32, g33, g34, g35, .int m_c.1, .int m_c.2.1, .int m_c.2.2])), (a5, .inl (cB37, 26, .inl m_v)), (a6, .inl (cB38, 26, .inl o1))])) hP hD
  refine lv_aload_n hx hb (zat zrX12_days_0_ok 2 rfl) rfl (lv_at hl 0 rfl) ?_
  refine va_get (D := (dC, dI)) (ci := 9) (v := .ref a6) (C := RX12) (T := TX12) (N := 30) hx hb hts ifX12_days_X12 hown hK hP 15 rfl rfl 16 (by decide) (hts (.fieldLink RX12 21 "HookPierModel" "x" "[I") (List.mem_of_getElem? (i := 5) rfl)) (fun _ h9 => h9) rfl (zat zrX12_days_0_ok 3 rfl) ?_
  refine lv_bipush (v := 24) hx hb (zat zrX12_days_0_ok 4 rfl) (by decide) ?_
  refine lv_iload_n hx hb (zat zrX12_days_0_ok 5 rfl) rfl (lv_at hl 1 rfl) ?_
  refine va_iast hx hb hK hP hD hS 17 15 rfl rfl (by unfold vp_in; decide) (zat zrX12_days_0_ok 6 rfl) (fun H locs hP hD hS => ?_)
  obtain ⟨hP, hD⟩ := pd_mk (bX11 a4 uq kq q_q ([(a0, .inr (9, [g12, g13, g14, .ref a4, g15, g16, g17, g18, g19, g20, g21, g22, g23, g24, g25, .ref a5, .ref a6, g26, g27, g28, g29, g30, g31, g32, g33, g34, g35, .int m_c.1, .int m_c.2.1, .int m_c.2.2])), (a5, .inl (cB37, 26, .inl m_v)), (a6, .inl (cB38, 26, .inl (upd o1 ((24 : Int32)).toNatClampNeg k1)))])) hP hD
  refine lv_aload_n hx hb (zat zrX12_days_0_ok 7 rfl) rfl (lv_at hl 0 rfl) ?_
  refine lv_iconst (v := 0) hx hb (zat zrX12_days_0_ok 8 rfl) (by decide) ?_
  refine va_put (D := (dC, dI)) (ci := 9) (v := .int 0) (ty := .int) (C := RX12) (T := TX12) (N := 30) hx hb hts ifX12_days_X12 tyX12 tyX12_ok nmX12 hown hK hP hD hS 15 rfl rfl 27 (by decide) (hts (.fieldLink RX12 473 "HookPierModel" "crabsNow" "I") (List.mem_of_getElem? (i := 6) rfl)) (fun _ h9 => h9) rfl (by decide +kernel) rfl rfl (Nat.le_of_ble_eq_true rfl) (zat zrX12_days_0_ok 9 rfl) (fun H locs hP hD hS => ?_)
  obtain ⟨hP, hD⟩ := pd_mk (bX11 a4 uq kq q_q ([(a0, .inr (9, [g12, g13, g14, .ref a4, g15, g16, g17, g18, g19, g20, g21, g22, g23, g24, g25, .ref a5, .ref a6, g26, g27, g28, g29, g30, g31, g32, g33, g34, g35, .int 0, .int m_c.2.1, .int m_c.2.2])), (a5, .inl (cB37, 26, .inl m_v)), (a6, .inl (cB38, 26, .inl (upd o1 ((24 : Int32)).toNatClampNeg k1)))])) hP hD
  refine lv_aload_n hx hb (zat zrX12_days_0_ok 10 rfl) rfl (lv_at hl 0 rfl) ?_
  refine lv_iconst (v := 0) hx hb (zat zrX12_days_0_ok 11 rfl) (by decide) ?_
  refine va_put (D := (dC, dI)) (ci := 9) (v := .int 0) (ty := .int) (C := RX12) (T := TX12) (N := 30) hx hb hts ifX12_days_X12 tyX12 tyX12_ok nmX12 hown hK hP hD hS 15 rfl rfl 28 (by decide) (hts (.fieldLink RX12 479 "HookPierModel" "landedNow" "I") (List.mem_of_getElem? (i := 7) rfl)) (fun _ h9 => h9) rfl (by decide +kernel) rfl rfl (Nat.le_of_ble_eq_true rfl) (zat zrX12_days_0_ok 12 rfl) (fun H locs hP hD hS => ?_)
  obtain ⟨hP, hD⟩ := pd_mk (bX11 a4 uq kq q_q ([(a0, .inr (9, [g12, g13, g14, .ref a4, g15, g16, g17, g18, g19, g20, g21, g22, g23, g24, g25, .ref a5, .ref a6, g26, g27, g28, g29, g30, g31, g32, g33, g34, g35, .int 0, .int 0, .int m_c.2.2])), (a5, .inl (cB37, 26, .inl m_v)), (a6, .inl (cB38, 26, .inl (upd o1 ((24 : Int32)).toNatClampNeg k1)))])) hP hD
  refine lv_aload_n hx hb (zat zrX12_days_0_ok 13 rfl) rfl (lv_at hl 0 rfl) ?_
  refine lv_iconst (v := 0) hx hb (zat zrX12_days_0_ok 14 rfl) (by decide) ?_
  refine va_put (D := (dC, dI)) (ci := 9) (v := .int 0) (ty := .int) (C := RX12) (T := TX12) (N := 30) hx hb hts ifX12_days_X12 tyX12 tyX12_ok nmX12 hown hK hP hD hS 15 rfl rfl 29 (by decide) (hts (.fieldLink RX12 482 "HookPierModel" "landedWhen" "I") (List.mem_of_getElem? (i := 8) rfl)) (fun _ h9 => h9) rfl (by decide +kernel) rfl rfl (Nat.le_of_ble_eq_true rfl) (zat zrX12_days_0_ok 15 rfl) (fun H locs hP hD hS => ?_)
  obtain ⟨hP, hD⟩ := pd_mk (bX11 a4 uq kq q_q ([(a0, .inr (9, [g12, g13, g14, .ref a4, g15, g16, g17, g18, g19, g20, g21, g22, g23, g24, g25, .ref a5, .ref a6, g26, g27, g28, g29, g30, g31, g32, g33, g34, g35, .int 0, .int 0, .int 0])), (a5, .inl (cB37, 26, .inl m_v)), (a6, .inl (cB38, 26, .inl (upd o1 ((24 : Int32)).toNatClampNeg k1)))])) hP hD
  refine lv_iconst (v := 1) hx hb (zat zrX12_days_0_ok 16 rfl) (by decide) ?_
  refine lv_istore (lv' := [(4, .int 1), (0, .ref a0), (1, .int k1), (2, .int k2), (3, .int k3)]) hx hb (zat zrX12_days_0_ok 17 rfl) hl (by decide) rfl (fun ls hl => ?_)
  have L30 : ∀ (n30 : Nat) (v30_l4 : Int32) (v30_m_w : TX12_w) (v30_m_c : TX12_c) (H : Heap) (locs : List Loc) (ls : Array Slot), f_X12_days_L30 k2 k3 m_v q_q n30 v30_l4 v30_m_w v30_m_c = some out → va_P (dC, dI) vwCl (bX11 a4 uq kq q_q ([(a0, .inr (9, [g12, g13, g14, .ref a4, g15, g16, g17, g18, g19, g20, g21, g22, g23, g24, g25, .ref a5, .ref a6, g26, g27, g28, g29, g30, g31, g32, g33, g34, g35, .int v30_m_c.1, .int v30_m_c.2.1, .int v30_m_c.2.2])), (a5, .inl (cB37, 26, .inl m_v)), (a6, .inl (cB38, 26, .inl v30_m_w))])) H → va_D A (bX11 a4 uq kq q_q ([(a0, .inr (9, [g12, g13, g14, .ref a4, g15, g16, g17, g18, g19, g20, g21, g22, g23, g24, g25, .ref a5, .ref a6, g26, g27, g28, g29, g30, g31, g32, g33, g34, g35, .int v30_m_c.1, .int v30_m_c.2.1, .int v30_m_c.2.2])), (a5, .inl (cB37, 26, .inl m_v)), (a6, .inl (cB38, 26, .inl v30_m_w))])) → va_S A s.heap H locs → lv_has ls 6 [(4, .int v30_l4), (0, .ref a0), (2, .int k2), (3, .int k3)] → W p l e (headSpec vfX12_days { frames := 6, cells := 0, slots := 0, locals := 140 }).room s m ([.ref a0, .int k1, .int k2, .int k3]).toArray below meth c H locs 0 0 QQ (F0 m 30 ls []) := by
    intro n30
    induction n30 with
    | zero =>
      intro v30_l4 v30_m_w v30_m_c H locs ls h  _ _ _ _
      rw [f_X12_days_L30] at h
      cases h
    | succ n30 ih30 =>
      intro v30_l4 v30_m_w v30_m_c H locs ls h  hP hD hS hl
      rw [f_X12_days_L30] at h
      refine lv_iload hx hb (zat zrX12_days_0_ok 18 rfl) (lv_at hl 0 rfl) ?_
      refine lv_iload_n hx hb (zat zrX12_days_0_ok 19 rfl) rfl (lv_at hl 2 rfl) ?_
      refine lv_icmp_gt (tgt := 116) hx hb (zat zrX12_days_0_ok 20 rfl) (by decide) (fun c33 => ?_) (fun c33 => ?_)
      · have h := (if_pos c33).symm.trans h
        obtain rfl := Option.some.inj h
        obtain ⟨hP9, hD9⟩ := pd_sub ((a0, .inr (9, [g12, g13, g14, .ref a4, g15, g16, g17, g18, g19, g20, g21, g22, g23, g24, g25, .ref a5, .ref a6, g26, g27, g28, g29, g30, g31, g32, g33, g34, g35, .int v30_m_c.1, .int v30_m_c.2.1, .int v30_m_c.2.2])) :: bX11 a4 uq kq q_q ([(a5, .inl (cB37, 26, .inl m_v)), (a6, .inl (cB38, 26, .inl v30_m_w))])) [15, 0, 1, 2, 3, 4, 5, 6, 7, 8, 9, 10, 11, 12, 13, 14, 16, 17] hP hD (by decide) rfl
        have hK9 := hK.sub (tys' := []) [] rfl
        rw [hQQ]
        exact W.vret hx hb hr (fun t ht hW => ⟨⟨(), rfl, trivial, by rw [ht]; exact hP9, va_K.moved hW.alike hK9, hD9⟩, hS.F ht⟩) hS.2.2 (zat zrX12_days_0_ok 61 rfl)
      · have h := (if_neg c33).symm.trans h
        refine lv_iconst (v := 0) hx hb (zat zrX12_days_0_ok 21 rfl) (by decide) ?_
        refine lv_istore (lv' := [(5, .int 0), (4, .int v30_l4), (0, .ref a0), (2, .int k2), (3, .int k3)]) hx hb (zat zrX12_days_0_ok 22 rfl) hl (by decide) rfl (fun ls hl => ?_)
        have L39 : ∀ (n39 : Nat) (v39_l5 : Int32) (v39_m_w : TX12_w) (H : Heap) (locs : List Loc) (ls : Array Slot), f_X12_days_L39 k3 m_v q_q (f_X12_days_L30 k2 k3 m_v q_q n30) v30_l4 v30_m_c n39 v39_l5 v39_m_w = some out → va_P (dC, dI) vwCl (bX11 a4 uq kq q_q ([(a0, .inr (9, [g12, g13, g14, .ref a4, g15, g16, g17, g18, g19, g20, g21, g22, g23, g24, g25, .ref a5, .ref a6, g26, g27, g28, g29, g30, g31, g32, g33, g34, g35, .int v30_m_c.1, .int v30_m_c.2.1, .int v30_m_c.2.2])), (a5, .inl (cB37, 26, .inl m_v)), (a6, .inl (cB38, 26, .inl v39_m_w))])) H → va_D A (bX11 a4 uq kq q_q ([(a0, .inr (9, [g12, g13, g14, .ref a4, g15, g16, g17, g18, g19, g20, g21, g22, g23, g24, g25, .ref a5, .ref a6, g26, g27, g28, g29, g30, g31, g32, g33, g34, g35, .int v30_m_c.1, .int v30_m_c.2.1, .int v30_m_c.2.2])), (a5, .inl (cB37, 26, .inl m_v)), (a6, .inl (cB38, 26, .inl v39_m_w))])) → va_S A s.heap H locs → lv_has ls 6 [(5, .int v39_l5), (4, .int v30_l4), (0, .ref a0), (2, .int k2), (3, .int k3)] → W p l e (headSpec vfX12_days { frames := 6, cells := 0, slots := 0, locals := 140 }).room s m ([.ref a0, .int k1, .int k2, .int k3]).toArray below meth c H locs 0 0 QQ (F0 m 39 ls []) := by
          intro n39
          induction n39 with
          | zero =>
            intro v39_l5 v39_m_w H locs ls h  _ _ _ _
            rw [f_X12_days_L39] at h
            cases h
          | succ n39 ih39 =>
            intro v39_l5 v39_m_w H locs ls h  hP hD hS hl
            rw [f_X12_days_L39] at h
            refine lv_iload hx hb (zat zrX12_days_0_ok 23 rfl) (lv_at hl 0 rfl) ?_
            refine lv_iconst (v := 5) hx hb (zat zrX12_days_0_ok 24 rfl) (by decide) ?_
            refine lv_icmp_ge (tgt := 71) hx hb (zat zrX12_days_0_ok 25 rfl) (by decide) (fun c42 => ?_) (fun c42 => ?_)
            · have h := (if_pos c42).symm.trans h
              refine lv_aload_n hx hb (zat zrX12_days_0_ok 40 rfl) rfl (lv_at hl 2 rfl) ?_
              refine lv_aload_n hx hb (zat zrX12_days_0_ok 41 rfl) rfl (lv_at hl 2 rfl) ?_
              refine va_get (D := (dC, dI)) (ci := 9) (v := .ref a6) (C := RX12) (T := TX12) (N := 30) hx hb hts ifX12_days_X12 hown hK hP 15 rfl rfl 16 (by decide) (hts (.fieldLink RX12 21 "HookPierModel" "x" "[I") (List.mem_of_getElem? (i := 5) rfl)) (fun _ h9 => h9) rfl (zat zrX12_days_0_ok 42 rfl) ?_
              obtain ⟨o76, eo76, h⟩ := bd_of h
              refine ck_i (wc := ((a0, .inr (9, [g12, g13, g14, .ref a4, g15, g16, g17, g18, g19, g20, g21, g22, g23, g24, g25, .ref a5, .ref a6, g26, g27, g28, g29, g30, g31, g32, g33, g34, g35, .int v30_m_c.1, .int v30_m_c.2.1, .int v30_m_c.2.2])) :: bX11 a4 uq kq q_q ([(a6, .inl (cB38, 26, .inl v39_m_w))]))) (wr := ([(a5, .inl (cB37, 26, .inl m_v))])) hP hD hK hS hA [15, 0, 1, 2, 3, 4, 5, 6, 7, 8, 9, 10, 11, 12, 13, 14, 17] [16] rfl rfl (by decide) (by decide) (by decide) (fun hPc hDc => (va_runV (As := [.ref a6]) (rest := []) ⟨hx, hb, hml, hown, hts⟩ (kfX12_goesBy_x l dC dI a0 a6 a4 uq kq v39_m_w v30_m_c (g12) (g13) (g14) (g15) (g16) (g17) (g18) (g19) (g20) (g21) (g22) (g23) (g24) (g25) (.ref a5) (g26) (g27) (g28) (g29) (g30) (g31) (g32) (g33) (g34) (g35) q_q cB38 H.size o76 eo76) (cwV 1 hts gfX12_days_1 rfl rfl rfl (by decide +kernel) ⟨(Nat.le_of_ble_eq_true rfl), (Nat.le_of_ble_eq_true rfl)⟩) (PV hPc (hK.sub (tys' := (tX11 kq ((cB38, .int) :: []))) [0, 1, 2, 3, 4, 5, 6, 7, 8, 9, 10, 11, 12, 13, 15] rfl) hDc hN 0 rfl rfl) rfl rfl hl.1 rfl (lv_room (Nat.le_of_ble_eq_true rfl)) (zat zrX12_days_0_ok 43 rfl) ⟨(Nat.le_of_ble_eq_true rfl), (Nat.le_of_ble_eq_true rfl)⟩)) (fun r76 _ H locs hw hP hD _ hS => ?_)
              obtain rfl := hw
              obtain ⟨hP, hD⟩ := pd_mk ((a5, .inl (cB37, 26, .inl m_v)) :: (a0, .inr (9, [g12, g13, g14, .ref a4, g15, g16, g17, g18, g19, g20, g21, g22, g23, g24, g25, .ref a5, .ref a6, g26, g27, g28, g29, g30, g31, g32, g33, g34, g35, .int o76.2.2.1, .int o76.2.2.2.1, .int o76.2.2.2.2])) :: bX11 a4 uq kq q_q ([(a6, .inl (cB38, 26, .inl o76.2.1))])) hP hD
              refine lv_istore (lv' := [(5, .int o76.1), (4, .int v30_l4), (0, .ref a0), (2, .int k2), (3, .int k3)]) hx hb (zat zrX12_days_0_ok 44 rfl) hl (by decide) rfl (fun ls hl => ?_)
              refine lv_aload_n hx hb (zat zrX12_days_0_ok 45 rfl) rfl (lv_at hl 2 rfl) ?_
              refine lv_dup hx hb (zat zrX12_days_0_ok 46 rfl) rfl ?_
              refine va_get (D := (dC, dI)) (ci := 9) (v := .int o76.2.2.2.1) (C := RX12) (T := TX12) (N := 30) hx hb hts ifX12_days_X12 hown hK hP 1 rfl rfl 28 (by decide) (hts (.fieldLink RX12 479 "HookPierModel" "landedNow" "I") (List.mem_of_getElem? (i := 7) rfl)) (fun _ h9 => h9) rfl (zat zrX12_days_0_ok 47 rfl) ?_
              refine lv_iload hx hb (zat zrX12_days_0_ok 48 rfl) (lv_at hl 0 rfl) ?_
              obtain ⟨o88, eo88, h⟩ := bd_of h
              refine ck_i (wc := []) (wr := ((a5, .inl (cB37, 26, .inl m_v)) :: (a0, .inr (9, [g12, g13, g14, .ref a4, g15, g16, g17, g18, g19, g20, g21, g22, g23, g24, g25, .ref a5, .ref a6, g26, g27, g28, g29, g30, g31, g32, g33, g34, g35, .int o76.2.2.1, .int o76.2.2.2.1, .int o76.2.2.2.2])) :: bX11 a4 uq kq q_q ([(a6, .inl (cB38, 26, .inl o76.2.1))]))) hP hD hK hS hA [] [0, 1, 2, 3, 4, 5, 6, 7, 8, 9, 10, 11, 12, 13, 14, 15, 16, 17] rfl rfl (by decide) (by decide) (by decide) (fun hPc hDc => (va_runS (As := [.int o76.1]) (rest := [.int o76.2.2.2.1, .ref a0]) ⟨hx, hb, hml, hown, hts⟩ (kfX12_bits l dC dI o76.1 H.size o88 eo88) (va_cwS 1 hts gfX12_days_2 rfl rfl rfl (by decide +kernel) ⟨(Nat.le_of_ble_eq_true rfl), (Nat.le_of_ble_eq_true rfl)⟩) (PS hPc (hK.sub (tys' := ([])) [] rfl) hDc hN) rfl rfl hl.1 rfl (lv_room (Nat.le_of_ble_eq_true rfl)) (zat zrX12_days_0_ok 49 rfl) ⟨(Nat.le_of_ble_eq_true rfl), (Nat.le_of_ble_eq_true rfl)⟩)) (fun r88 _ H locs hw hP hD _ hS => ?_)
              obtain rfl := hw.symm
              obtain ⟨hP, hD⟩ := pd_mk ((a5, .inl (cB37, 26, .inl m_v)) :: (a0, .inr (9, [g12, g13, g14, .ref a4, g15, g16, g17, g18, g19, g20, g21, g22, g23, g24, g25, .ref a5, .ref a6, g26, g27, g28, g29, g30, g31, g32, g33, g34, g35, .int o76.2.2.1, .int o76.2.2.2.1, .int o76.2.2.2.2])) :: bX11 a4 uq kq q_q ([(a6, .inl (cB38, 26, .inl o76.2.1))])) hP hD
              refine lv_iadd hx hb (zat zrX12_days_0_ok 50 rfl) ?_
              refine va_put (D := (dC, dI)) (ci := 9) (v := .int (o76.2.2.2.1 + o88)) (ty := .int) (C := RX12) (T := TX12) (N := 30) hx hb hts ifX12_days_X12 tyX12 tyX12_ok nmX12 hown hK hP hD hS 1 rfl rfl 28 (by decide) (hts (.fieldLink RX12 479 "HookPierModel" "landedNow" "I") (List.mem_of_getElem? (i := 7) rfl)) (fun _ h9 => h9) rfl (by decide +kernel) rfl rfl (Nat.le_of_ble_eq_true rfl) (zat zrX12_days_0_ok 51 rfl) (fun H locs hP hD hS => ?_)
              obtain ⟨hP, hD⟩ := pd_mk ((a5, .inl (cB37, 26, .inl m_v)) :: (a0, .inr (9, [g12, g13, g14, .ref a4, g15, g16, g17, g18, g19, g20, g21, g22, g23, g24, g25, .ref a5, .ref a6, g26, g27, g28, g29, g30, g31, g32, g33, g34, g35, .int o76.2.2.1, .int (o76.2.2.2.1 + o88), .int o76.2.2.2.2])) :: bX11 a4 uq kq q_q ([(a6, .inl (cB38, 26, .inl o76.2.1))])) hP hD
              refine lv_iload hx hb (zat zrX12_days_0_ok 52 rfl) (lv_at hl 0 rfl) ?_
              refine lv_iload_n hx hb (zat zrX12_days_0_ok 53 rfl) rfl (lv_at hl 4 rfl) ?_
              obtain ⟨o98, eo98⟩ : ∃ o, o = f_X12_bit o76.1 k3 := ⟨_, rfl⟩
              have h := nm_of h o98 eo98
              refine ck_i (wc := []) (wr := ((a5, .inl (cB37, 26, .inl m_v)) :: (a0, .inr (9, [g12, g13, g14, .ref a4, g15, g16, g17, g18, g19, g20, g21, g22, g23, g24, g25, .ref a5, .ref a6, g26, g27, g28, g29, g30, g31, g32, g33, g34, g35, .int o76.2.2.1, .int (o76.2.2.2.1 + o88), .int o76.2.2.2.2])) :: bX11 a4 uq kq q_q ([(a6, .inl (cB38, 26, .inl o76.2.1))]))) hP hD hK hS hA [] [0, 1, 2, 3, 4, 5, 6, 7, 8, 9, 10, 11, 12, 13, 14, 15, 16, 17] rfl rfl (by decide) (by decide) (by decide) (fun hPc hDc => (va_runS (As := [.int o76.1, .int k3]) (rest := []) ⟨hx, hb, hml, hown, hts⟩ (kfX12_bit l dC dI o76.1 k3 H.size o98 eo98.symm) (va_cwS 2 hts gfX12_days_3 rfl rfl rfl (by decide +kernel) ⟨(Nat.le_of_ble_eq_true rfl), (Nat.le_of_ble_eq_true rfl)⟩) (PS hPc (hK.sub (tys' := ([])) [] rfl) hDc hN) rfl rfl hl.1 rfl (lv_room (Nat.le_of_ble_eq_true rfl)) (zat zrX12_days_0_ok 54 rfl) ⟨(Nat.le_of_ble_eq_true rfl), (Nat.le_of_ble_eq_true rfl)⟩)) (fun r98 _ H locs hw hP hD _ hS => ?_)
              obtain ⟨hw, br98⟩ := hw
              obtain rfl := hw.symm
              obtain ⟨hP, hD⟩ := pd_mk ((a5, .inl (cB37, 26, .inl m_v)) :: (a0, .inr (9, [g12, g13, g14, .ref a4, g15, g16, g17, g18, g19, g20, g21, g22, g23, g24, g25, .ref a5, .ref a6, g26, g27, g28, g29, g30, g31, g32, g33, g34, g35, .int o76.2.2.1, .int (o76.2.2.2.1 + o88), .int o76.2.2.2.2])) :: bX11 a4 uq kq q_q ([(a6, .inl (cB38, 26, .inl o76.2.1))])) hP hD
              have J110 : ∀ (v110_m_c : TX12_c) (H : Heap) (locs : List Loc) (ls : Array Slot), f_X12_days_J110 (f_X12_days_L30 k2 k3 m_v q_q n30) o76 v30_l4 v110_m_c = some out → va_P (dC, dI) vwCl ((a5, .inl (cB37, 26, .inl m_v)) :: (a0, .inr (9, [g12, g13, g14, .ref a4, g15, g16, g17, g18, g19, g20, g21, g22, g23, g24, g25, .ref a5, .ref a6, g26, g27, g28, g29, g30, g31, g32, g33, g34, g35, .int v110_m_c.1, .int v110_m_c.2.1, .int v110_m_c.2.2])) :: bX11 a4 uq kq q_q ([(a6, .inl (cB38, 26, .inl o76.2.1))])) H → va_D A ((a5, .inl (cB37, 26, .inl m_v)) :: (a0, .inr (9, [g12, g13, g14, .ref a4, g15, g16, g17, g18, g19, g20, g21, g22, g23, g24, g25, .ref a5, .ref a6, g26, g27, g28, g29, g30, g31, g32, g33, g34, g35, .int v110_m_c.1, .int v110_m_c.2.1, .int v110_m_c.2.2])) :: bX11 a4 uq kq q_q ([(a6, .inl (cB38, 26, .inl o76.2.1))])) → va_S A s.heap H locs → lv_has ls 6 [(4, .int v30_l4), (0, .ref a0), (2, .int k2), (3, .int k3)] → W p l e (headSpec vfX12_days { frames := 6, cells := 0, slots := 0, locals := 140 }).room s m ([.ref a0, .int k1, .int k2, .int k3]).toArray below meth c H locs 0 0 QQ (F0 m 110 ls []) := by
                intro v110_m_c H locs ls h  hP hD hS hl
                rw [f_X12_days_J110] at h
                refine lv_iinc (v := (v30_l4 + (1 : Int32))) (lv' := [(4, .int (v30_l4 + (1 : Int32))), (0, .ref a0), (2, .int k2), (3, .int k3)]) hx hb (zat zrX12_days_0_ok 59 rfl) hl (k := 0) rfl rfl (by decide) rfl (fun ls hl => ?_)
                refine lv_goto (tgt := 30) hx hb (zat zrX12_days_0_ok 60 rfl) (by decide) ?_
                exact ih30 (v30_l4 + (1 : Int32)) o76.2.1 v110_m_c H _ ls h  (hP.sub (ws' := (bX11 a4 uq kq q_q ([(a0, .inr (9, [g12, g13, g14, .ref a4, g15, g16, g17, g18, g19, g20, g21, g22, g23, g24, g25, .ref a5, .ref a6, g26, g27, g28, g29, g30, g31, g32, g33, g34, g35, .int v110_m_c.1, .int v110_m_c.2.1, .int v110_m_c.2.2])), (a5, .inl (cB37, 26, .inl m_v)), (a6, .inl (cB38, 26, .inl o76.2.1))]))) [2, 3, 4, 5, 6, 7, 8, 9, 10, 11, 12, 13, 14, 15, 16, 1, 0, 17] rfl) (hD.sub (ws' := (bX11 a4 uq kq q_q ([(a0, .inr (9, [g12, g13, g14, .ref a4, g15, g16, g17, g18, g19, g20, g21, g22, g23, g24, g25, .ref a5, .ref a6, g26, g27, g28, g29, g30, g31, g32, g33, g34, g35, .int v110_m_c.1, .int v110_m_c.2.1, .int v110_m_c.2.2])), (a5, .inl (cB37, 26, .inl m_v)), (a6, .inl (cB38, 26, .inl o76.2.1))]))) [2, 3, 4, 5, 6, 7, 8, 9, 10, 11, 12, 13, 14, 15, 16, 1, 0, 17] (by decide) rfl) hS (lv_sub hl [0, 1, 2, 3] rfl)
              refine lv_if_eq (tgt := 110) hx hb (zat zrX12_days_0_ok 55 rfl) (by decide) (fun c101 => ?_) (fun c101 => ?_)
              · have h := (if_pos c101).symm.trans h
                exact J110 (o76.2.2.1, (o76.2.2.2.1 + o88), o76.2.2.2.2) H _ ls h  hP hD hS (lv_sub hl [1, 2, 3, 4] rfl)
              · have h := (if_neg c101).symm.trans h
                refine lv_aload_n hx hb (zat zrX12_days_0_ok 56 rfl) rfl (lv_at hl 2 rfl) ?_
                refine lv_iload hx hb (zat zrX12_days_0_ok 57 rfl) (lv_at hl 1 rfl) ?_
                refine va_put (D := (dC, dI)) (ci := 9) (v := .int v30_l4) (ty := .int) (C := RX12) (T := TX12) (N := 30) hx hb hts ifX12_days_X12 tyX12 tyX12_ok nmX12 hown hK hP hD hS 1 rfl rfl 29 (by decide) (hts (.fieldLink RX12 482 "HookPierModel" "landedWhen" "I") (List.mem_of_getElem? (i := 8) rfl)) (fun _ h9 => h9) rfl (by decide +kernel) rfl rfl (Nat.le_of_ble_eq_true rfl) (zat zrX12_days_0_ok 58 rfl) (fun H locs hP hD hS => ?_)
                obtain ⟨hP, hD⟩ := pd_mk ((a5, .inl (cB37, 26, .inl m_v)) :: (a0, .inr (9, [g12, g13, g14, .ref a4, g15, g16, g17, g18, g19, g20, g21, g22, g23, g24, g25, .ref a5, .ref a6, g26, g27, g28, g29, g30, g31, g32, g33, g34, g35, .int o76.2.2.1, .int (o76.2.2.2.1 + o88), .int v30_l4])) :: bX11 a4 uq kq q_q ([(a6, .inl (cB38, 26, .inl o76.2.1))])) hP hD
                exact J110 (o76.2.2.1, (o76.2.2.2.1 + o88), v30_l4) H _ ls h  hP hD hS (lv_sub hl [1, 2, 3, 4] rfl)
            · have h := (if_neg c42).symm.trans h
              refine lv_aload_n hx hb (zat zrX12_days_0_ok 26 rfl) rfl (lv_at hl 2 rfl) ?_
              refine va_get (D := (dC, dI)) (ci := 9) (v := .ref a6) (C := RX12) (T := TX12) (N := 30) hx hb hts ifX12_days_X12 hown hK hP 15 rfl rfl 16 (by decide) (hts (.fieldLink RX12 21 "HookPierModel" "x" "[I") (List.mem_of_getElem? (i := 5) rfl)) (fun _ h9 => h9) rfl (zat zrX12_days_0_ok 27 rfl) ?_
              refine lv_bipush (v := 18) hx hb (zat zrX12_days_0_ok 28 rfl) (by decide) ?_
              refine lv_iload hx hb (zat zrX12_days_0_ok 29 rfl) (lv_at hl 0 rfl) ?_
              refine lv_iadd hx hb (zat zrX12_days_0_ok 30 rfl) ?_
              refine lv_aload_n hx hb (zat zrX12_days_0_ok 31 rfl) rfl (lv_at hl 2 rfl) ?_
              refine va_get (D := (dC, dI)) (ci := 9) (v := .ref a5) (C := RX12) (T := TX12) (N := 30) hx hb hts ifX12_days_X12 hown hK hP 15 rfl rfl 15 (by decide) (hts (.fieldLink RX12 17 "HookPierModel" "v" "[I") (List.mem_of_getElem? (i := 16) rfl)) (fun _ h9 => h9) rfl (zat zrX12_days_0_ok 32 rfl) ?_
              refine lv_bipush (v := 18) hx hb (zat zrX12_days_0_ok 33 rfl) (by decide) ?_
              refine lv_iload hx hb (zat zrX12_days_0_ok 34 rfl) (lv_at hl 0 rfl) ?_
              refine lv_iadd hx hb (zat zrX12_days_0_ok 35 rfl) ?_
              obtain ⟨hg63, h⟩ := gA_of h
              refine va_iald hx hb hK hP 16 14 rfl rfl hg63 (zat zrX12_days_0_ok 36 rfl) ?_
              obtain ⟨hg64, h⟩ := gA_of h
              refine va_iast hx hb hK hP hD hS 17 15 rfl rfl hg64 (zat zrX12_days_0_ok 37 rfl) (fun H locs hP hD hS => ?_)
              obtain ⟨hP, hD⟩ := pd_mk (bX11 a4 uq kq q_q ([(a0, .inr (9, [g12, g13, g14, .ref a4, g15, g16, g17, g18, g19, g20, g21, g22, g23, g24, g25, .ref a5, .ref a6, g26, g27, g28, g29, g30, g31, g32, g33, g34, g35, .int v30_m_c.1, .int v30_m_c.2.1, .int v30_m_c.2.2])), (a5, .inl (cB37, 26, .inl m_v)), (a6, .inl (cB38, 26, .inl (upd v39_m_w (((18 : Int32) + v39_l5)).toNatClampNeg (m_v (((18 : Int32) + v39_l5)).toNatClampNeg))))])) hP hD
              refine lv_iinc (v := (v39_l5 + (1 : Int32))) (lv' := [(5, .int (v39_l5 + (1 : Int32))), (4, .int v30_l4), (0, .ref a0), (2, .int k2), (3, .int k3)]) hx hb (zat zrX12_days_0_ok 38 rfl) hl (k := 0) rfl rfl (by decide) rfl (fun ls hl => ?_)
              refine lv_goto (tgt := 39) hx hb (zat zrX12_days_0_ok 39 rfl) (by decide) ?_
              exact ih39 (v39_l5 + (1 : Int32)) (upd v39_m_w (((18 : Int32) + v39_l5)).toNatClampNeg (m_v (((18 : Int32) + v39_l5)).toNatClampNeg)) H _ ls h  hP hD hS (lv_sub hl [0, 1, 2, 3, 4] rfl)
        exact L39 FU (0 : Int32) v30_m_w H _ ls h  hP hD hS (lv_sub hl [0, 1, 2, 3, 4] rfl)
  exact L30 FU (1 : Int32) (upd o1 ((24 : Int32)).toNatClampNeg k1) ((0 : Int32), (0 : Int32), (0 : Int32)) H _ ls h  hP hD hS (lv_sub hl [0, 1, 3, 4] rfl)
noncomputable def zrX12_landed_0 : List ZR := zc 0 true (.aload_n 0) 1 (zc 1 true (.iconst 0) 1 (zc 2 true (.putfield 36) 3 (zc 5 true (.aload_n 0) 1 (zc 6 true (.aload_n 0) 1 (zc 7 true (.getfield 299) 3 (zc 10 true (.ifnull 7) 3 (zc 13 true (.iconst 1) 1 (zc 14 true (.goto 4) 3 (zc 17 false (.nop) 1 (zc 18 true (.iload_n 1) 1 (zc 19 true (.iload_n 2) 1 (zc 20 true (.invokevirtual 490) 3 (zc 23 true (.istore_n 3) 1 (zc 24 true (.iload_n 3) 1 (zc 25 true (.ifCond .le 9) 3 (zc 28 true (.aload_n 0) 1 (zc 29 true (.iload_n 3) 1 (zc 30 true (.invokevirtual 42) 3 (zc 33 true (.ireturn) 1 (zc 34 true (.aload_n 0) 1 (zc 35 true (.iload_n 1) 1 (zc 36 true (.iload_n 2) 1 (zc 37 true (.iconst 0) 1 (zc 38 true (.invokevirtual 494) 3 (zc 41 true (.aload_n 0) 1 (zc 42 true (.aload_n 0) 1 (zc 43 true (.getfield 479) 3 (zc 46 true (.invokevirtual 46) 3 (zc 49 true (.ireturn) 1 ([]))))))))))))))))))))))))))))))
theorem zrX12_landed_0_ok : zck 0 ((zby cX12_landed).drop 0) zrX12_landed_0 = true := by decide +kernel
def vfX12_landed : List Cond := List.cons (.code yX12_landed cX12_landed 4 (some .int)) (apW [.fieldLink RX12 36 "HookPierModel" "thrown" "I", .fieldLink RX12 299 "HookPierModel" "pier" "LHookPierModel$Pier;", .methodLink RX12 490 yX12_refusesDays, .instanceMethod yX12_refusesDays, .selects RX12 yX12_refusesDays yX12_refusesDays, .initialized RX12, .methodLink RX12 494 yX12_days, .instanceMethod yX12_days, .selects RX12 yX12_days yX12_days, .fieldLink RX12 479 "HookPierModel" "landedNow" "I", .methodLink RX12 46 yX12_good, .instanceMethod yX12_good, .selects RX12 yX12_good yX12_good, .methodLink RX12 42 yX12_refused, .instanceMethod yX12_refused, .selects RX12 yX12_refused yX12_refused] (apW wsX120 (apW vfX12_refusesDays (apW vfX12_days (apW vfX12_good (vfX12_refused))))))
theorem ifX12_landed_X12 : ∀ w ∈ wsX120, w ∈ vfX12_landed := fun _ h => (List.mem_cons_of_mem _ (List.mem_append_right _ (List.mem_append_left _ h)))
theorem qfX12_landed : Good vfX12_landed := gd_cons (by decide +kernel) (gd_app (gd_dec (by decide +kernel) : Good [.fieldLink RX12 36 "HookPierModel" "thrown" "I", .fieldLink RX12 299 "HookPierModel" "pier" "LHookPierModel$Pier;", .methodLink RX12 490 yX12_refusesDays, .instanceMethod yX12_refusesDays, .selects RX12 yX12_refusesDays yX12_refusesDays, .initialized RX12, .methodLink RX12 494 yX12_days, .instanceMethod yX12_days, .selects RX12 yX12_days yX12_days, .fieldLink RX12 479 "HookPierModel" "landedNow" "I", .methodLink RX12 46 yX12_good, .instanceMethod yX12_good, .selects RX12 yX12_good yX12_good, .methodLink RX12 42 yX12_refused, .instanceMethod yX12_refused, .selects RX12 yX12_refused yX12_refused]) (gd_app qsX12 (gd_app qfX12_refusesDays (gd_app qfX12_days (gd_app qfX12_good qfX12_refused)))))
theorem gfX12_landed_0 : GoodIn vfX12_landed (wsV RX12 490 RX12 yX12_refusesDays vfX12_refusesDays) := goodIn_app (goodIn_r [.methodLink RX12 490 yX12_refusesDays, .instanceMethod yX12_refusesDays, .selects RX12 yX12_refusesDays yX12_refusesDays, .initialized RX12] [3, 4, 5, 6] rfl (by decide +kernel)) (goodIn_m (fun _ h => (List.mem_cons_of_mem _ (List.mem_append_right _ (List.mem_append_right _ (List.mem_append_left _ h))))) qfX12_refusesDays)
theorem gfX12_landed_1 : GoodIn vfX12_landed (wsV RX12 494 RX12 yX12_days vfX12_days) := goodIn_app (goodIn_r [.methodLink RX12 494 yX12_days, .instanceMethod yX12_days, .selects RX12 yX12_days yX12_days, .initialized RX12] [7, 8, 9, 6] rfl (by decide +kernel)) (goodIn_m (fun _ h => (List.mem_cons_of_mem _ (List.mem_append_right _ (List.mem_append_right _ (List.mem_append_right _ (List.mem_append_left _ h)))))) qfX12_days)
theorem gfX12_landed_2 : GoodIn vfX12_landed (wsV RX12 46 RX12 yX12_good vfX12_good) := goodIn_app (goodIn_r [.methodLink RX12 46 yX12_good, .instanceMethod yX12_good, .selects RX12 yX12_good yX12_good, .initialized RX12] [11, 12, 13, 6] rfl (by decide +kernel)) (goodIn_m (fun _ h => (List.mem_cons_of_mem _ (List.mem_append_right _ (List.mem_append_right _ (List.mem_append_right _ (List.mem_append_right _ (List.mem_append_left _ h))))))) qfX12_good)
theorem gfX12_landed_3 : GoodIn vfX12_landed (wsV RX12 42 RX12 yX12_refused vfX12_refused) := goodIn_app (goodIn_r [.methodLink RX12 42 yX12_refused, .instanceMethod yX12_refused, .selects RX12 yX12_refused yX12_refused, .initialized RX12] [14, 15, 16, 6] rfl (by decide +kernel)) (goodIn_m (fun _ h => (List.mem_cons_of_mem _ (List.mem_append_right _ (List.mem_append_right _ (List.mem_append_right _ (List.mem_append_right _ (List.mem_append_right _ h))))))) qfX12_refused)
set_option maxHeartbeats 2000000 in
set_option maxRecDepth 100000 in
theorem kfX12_landed (l : Launch) (dC : Nat → ClassId) (dI : Nat → Nat → Nat) (a0 : Nat) (k1 : Int32) (k2 : Int32) (a3 : Nat) (a4 : Nat) (a5 : Nat) (uq : Nat → Nat) (kq : Nat → ClassId) (m_t : TX12_t) (m_v : TX12_v) (m_w : TX12_w) (m_c : TX12_c) (g12 : Value) (g13 : Value) (g14 : Value) (g15 : Value) (g16 : Value) (g17 : Value) (g18 : Value) (g19 : Value) (g20 : Value) (g21 : Value) (g22 : Value) (g23 : Value) (g24 : Value) (g25 : Value) (g26 : Value) (g27 : Value) (g28 : Value) (g29 : Value) (g30 : Value) (g31 : Value) (g32 : Value) (q_q : TX11_q) (cB34 : ClassId) (cB35 : ClassId) (sz : Nat) (out : (Int32 × TX12_t × TX12_w × TX12_c)) (h : f_X12_landed k1 k2 m_t m_v m_w m_c q_q = some out) : KCi l yX12_landed vfX12_landed ({ frames := 7, cells := 0, slots := 0, locals := 165 }) (dC, dI) [.ref a0, .int k1, .int k2] sz ((a0, .inr (9, [.int m_t.1, .int m_t.2.1, .int m_t.2.2, .ref a3, g12, g13, g14, g15, g16, g17, g18, g19, g20, g21, g22, .ref a4, .ref a5, g23, g24, g25, g26, g27, g28, g29, g30, g31, g32, .int m_c.1, .int m_c.2.1, .int m_c.2.2])) :: bX11 a3 uq kq q_q ([(a4, .inl (cB34, 26, .inl m_v)), (a5, .inl (cB35, 26, .inl m_w))])) (tX11 kq ((cB34, .int) :: (cB35, .int) :: [])) (fun (r : Int32) _ => r = out.1) ((a0, .inr (9, [.int out.2.1.1, .int out.2.1.2.1, .int out.2.1.2.2, .ref a3, g12, g13, g14, g15, g16, g17, g18, g19, g20, g21, g22, .ref a4, .ref a5, g23, g24, g25, g26, g27, g28, g29, g30, g31, g32, .int out.2.2.2.1, .int out.2.2.2.2.1, .int out.2.2.2.2.2])) :: bX11 a3 uq kq q_q ([(a4, .inl (cB34, 26, .inl m_v)), (a5, .inl (cB35, 26, .inl out.2.2.1))])) 0 0 := by
  refine Met.ofW (cc := cX12_landed) (maxL := 4) (ret := (some .int)) (by decide) rfl ?_
  intro p e s m args below meth c s₁ B0 hml hv
  obtain ⟨rfl, hsz, hP, hK, hD0, hN⟩ := hv
  have hx := B0.exec
  have hb := B0.bytes
  have hr := B0.returns
  have hts := atoms_spec (ws := vfX12_landed) B0.pre
  have hown : s.vm.findClass RX12 = some m.cls := findClass_of_methodNamed B0.named
  have hlocks := B0.notSynchronized
  subst hsz
  have hD := hD0.self (sz := s.heap.size)
  generalize hAe : va_A ((a0, .inr (9, [.int m_t.1, .int m_t.2.1, .int m_t.2.2, .ref a3, g12, g13, g14, g15, g16, g17, g18, g19, g20, g21, g22, .ref a4, .ref a5, g23, g24, g25, g26, g27, g28, g29, g30, g31, g32, .int m_c.1, .int m_c.2.1, .int m_c.2.2])) :: bX11 a3 uq kq q_q ([(a4, .inl (cB34, 26, .inl m_v)), (a5, .inl (cB35, 26, .inl m_w))])) s.heap.size = A at hD ⊢
  have hA : ∀ q : Nat, s.heap.size ≤ q → A q := fun q h => by rw [← hAe]; exact Or.inr h
  have hS : va_S A s.heap s.heap [] := va_S.rf
  have hP : va_P (dC, dI) vwCl ((a0, .inr (9, [.int m_t.1, .int m_t.2.1, .int m_t.2.2, .ref a3, g12, g13, g14, g15, g16, g17, g18, g19, g20, g21, g22, .ref a4, .ref a5, g23, g24, g25, g26, g27, g28, g29, g30, g31, g32, .int m_c.1, .int m_c.2.1, .int m_c.2.2])) :: bX11 a3 uq kq q_q ([(a4, .inl (cB34, 26, .inl m_v)), (a5, .inl (cB35, 26, .inl m_w))])) s.heap := hP
  have hl := lv_entry ([.ref a0, .int k1, .int k2]) (n := 4) (Nat.le_of_ble_eq_true rfl)
  rw [lg_entry_eq]
  generalize (lg_sl ([.ref a0, .int k1, .int k2]) ++ List.replicate (4 - (lg_sl ([.ref a0, .int k1, .int k2])).length) Slot.unset).toArray = ls at hl ⊢
  have hl : lv_has ls 4 [(0, .ref a0), (1, .int k1), (2, .int k2)] := hl
  refine W_q (fun QQ hQQ => ?_)
  rw [f_X12_landed] at h
  refine lv_aload_n hx hb (zat zrX12_landed_0_ok 0 rfl) rfl (lv_at hl 0 rfl) ?_
  refine lv_iconst (v := 0) hx hb (zat zrX12_landed_0_ok 1 rfl) (by decide) ?_
  refine va_put (D := (dC, dI)) (ci := 9) (v := .int 0) (ty := .int) (C := RX12) (T := TX12) (N := 30) hx hb hts ifX12_landed_X12 tyX12 tyX12_ok nmX12 hown hK hP hD hS 0 rfl rfl 0 (by decide) (hts (.fieldLink RX12 36 "HookPierModel" "thrown" "I") (List.mem_of_getElem? (i := 1) rfl)) (fun _ h9 => h9) rfl (by decide +kernel) rfl rfl (Nat.le_of_ble_eq_true rfl) (zat zrX12_landed_0_ok 2 rfl) (fun H locs hP hD hS => ?_)
  obtain ⟨hP, hD⟩ := pd_mk ((a0, .inr (9, [.int 0, .int m_t.2.1, .int m_t.2.2, .ref a3, g12, g13, g14, g15, g16, g17, g18, g19, g20, g21, g22, .ref a4, .ref a5, g23, g24, g25, g26, g27, g28, g29, g30, g31, g32, .int m_c.1, .int m_c.2.1, .int m_c.2.2])) :: bX11 a3 uq kq q_q ([(a4, .inl (cB34, 26, .inl m_v)), (a5, .inl (cB35, 26, .inl m_w))])) hP hD
  refine lv_aload_n hx hb (zat zrX12_landed_0_ok 3 rfl) rfl (lv_at hl 0 rfl) ?_
  refine lv_aload_n hx hb (zat zrX12_landed_0_ok 4 rfl) rfl (lv_at hl 0 rfl) ?_
  refine va_get (D := (dC, dI)) (ci := 9) (v := .ref a3) (C := RX12) (T := TX12) (N := 30) hx hb hts ifX12_landed_X12 hown hK hP 0 rfl rfl 3 (by decide) (hts (.fieldLink RX12 299 "HookPierModel" "pier" "LHookPierModel$Pier;") (List.mem_of_getElem? (i := 2) rfl)) (fun _ h9 => h9) rfl (zat zrX12_landed_0_ok 5 rfl) ?_
  refine lv_ifnull hx hb (zat zrX12_landed_0_ok 6 rfl) ?_
  refine lv_iconst (v := 1) hx hb (zat zrX12_landed_0_ok 7 rfl) (by decide) ?_
  refine lv_goto (tgt := 18) hx hb (zat zrX12_landed_0_ok 8 rfl) (by decide) ?_
  refine lv_iload_n hx hb (zat zrX12_landed_0_ok 10 rfl) rfl (lv_at hl 1 rfl) ?_
  refine lv_iload_n hx hb (zat zrX12_landed_0_ok 11 rfl) rfl (lv_at hl 2 rfl) ?_
  obtain ⟨o20, eo20⟩ : ∃ o, o = f_X12_refusesDays (1 : Int32) k1 k2 := ⟨_, rfl⟩
  have h := nm_of h o20 eo20
  refine ck_i (wc := ([(a0, .inr (9, [.int 0, .int m_t.2.1, .int m_t.2.2, .ref a3, g12, g13, g14, g15, g16, g17, g18, g19, g20, g21, g22, .ref a4, .ref a5, g23, g24, g25, g26, g27, g28, g29, g30, g31, g32, .int m_c.1, .int m_c.2.1, .int m_c.2.2]))])) (wr := (bX11 a3 uq kq q_q ([(a4, .inl (cB34, 26, .inl m_v)), (a5, .inl (cB35, 26, .inl m_w))]))) hP hD hK hS hA [0] [1, 2, 3, 4, 5, 6, 7, 8, 9, 10, 11, 12, 13, 14, 15, 16, 17] rfl rfl (by decide) (by decide) (by decide) (fun hPc hDc => (va_runV (As := [.int 1, .int k1, .int k2]) (rest := []) ⟨hx, hb, hml, hown, hts⟩ (kfX12_refusesDays l dC dI a0 (1 : Int32) k1 k2 (.int 0) (.int m_t.2.1) (.int m_t.2.2) (.ref a3) (g12) (g13) (g14) (g15) (g16) (g17) (g18) (g19) (g20) (g21) (g22) (.ref a4) (.ref a5) (g23) (g24) (g25) (g26) (g27) (g28) (g29) (g30) (g31) (g32) (.int m_c.1) (.int m_c.2.1) (.int m_c.2.2) H.size o20 eo20.symm) (cwV 3 hts gfX12_landed_0 rfl rfl rfl (by decide +kernel) ⟨(Nat.le_of_ble_eq_true rfl), (Nat.le_of_ble_eq_true rfl)⟩) (PV hPc (hK.sub (tys' := ([])) [] rfl) hDc hN 0 rfl rfl) rfl rfl hl.1 rfl (lv_room (Nat.le_of_ble_eq_true rfl)) (zat zrX12_landed_0_ok 12 rfl) ⟨(Nat.le_of_ble_eq_true rfl), (Nat.le_of_ble_eq_true rfl)⟩)) (fun r20 _ H locs hw hP hD _ hS => ?_)
  obtain rfl := hw.symm
  obtain ⟨hP, hD⟩ := pd_mk (bX11 a3 uq kq q_q ([(a4, .inl (cB34, 26, .inl m_v)), (a5, .inl (cB35, 26, .inl m_w)), (a0, .inr (9, [.int 0, .int m_t.2.1, .int m_t.2.2, .ref a3, g12, g13, g14, g15, g16, g17, g18, g19, g20, g21, g22, .ref a4, .ref a5, g23, g24, g25, g26, g27, g28, g29, g30, g31, g32, .int m_c.1, .int m_c.2.1, .int m_c.2.2]))])) hP hD
  refine lv_istore_n (lv' := [(3, .int o20), (0, .ref a0), (1, .int k1), (2, .int k2)]) hx hb (zat zrX12_landed_0_ok 13 rfl) rfl hl (by decide) rfl (fun ls hl => ?_)
  refine lv_iload_n hx hb (zat zrX12_landed_0_ok 14 rfl) rfl (lv_at hl 0 rfl) ?_
  refine lv_if_le (tgt := 34) hx hb (zat zrX12_landed_0_ok 15 rfl) (by decide) (fun c25 => ?_) (fun c25 => ?_)
  · have h := (if_pos c25).symm.trans h
    refine lv_aload_n hx hb (zat zrX12_landed_0_ok 20 rfl) rfl (lv_at hl 1 rfl) ?_
    refine lv_iload_n hx hb (zat zrX12_landed_0_ok 21 rfl) rfl (lv_at hl 2 rfl) ?_
    refine lv_iload_n hx hb (zat zrX12_landed_0_ok 22 rfl) rfl (lv_at hl 3 rfl) ?_
    refine lv_iconst (v := 0) hx hb (zat zrX12_landed_0_ok 23 rfl) (by decide) ?_
    obtain ⟨o38, eo38, h⟩ := bd_of h
    refine ck_v (wc := ((a0, .inr (9, [.int 0, .int m_t.2.1, .int m_t.2.2, .ref a3, g12, g13, g14, g15, g16, g17, g18, g19, g20, g21, g22, .ref a4, .ref a5, g23, g24, g25, g26, g27, g28, g29, g30, g31, g32, .int m_c.1, .int m_c.2.1, .int m_c.2.2])) :: bX11 a3 uq kq q_q ([(a4, .inl (cB34, 26, .inl m_v)), (a5, .inl (cB35, 26, .inl m_w))]))) (wr := []) hP hD hK hS hA [17, 0, 1, 2, 3, 4, 5, 6, 7, 8, 9, 10, 11, 12, 13, 14, 15, 16] [] rfl rfl (by decide) (by decide) (by decide) (fun hPc hDc => (va_runV (As := [.int k1, .int k2, .int 0]) (rest := []) ⟨hx, hb, hml, hown, hts⟩ (kfX12_days l dC dI a0 k1 k2 (0 : Int32) a3 a4 a5 uq kq m_v m_w m_c (.int 0) (.int m_t.2.1) (.int m_t.2.2) (g12) (g13) (g14) (g15) (g16) (g17) (g18) (g19) (g20) (g21) (g22) (g23) (g24) (g25) (g26) (g27) (g28) (g29) (g30) (g31) (g32) q_q cB34 cB35 H.size o38 eo38) (cwV 3 hts gfX12_landed_1 rfl rfl rfl (by decide +kernel) ⟨(Nat.le_of_ble_eq_true rfl), (Nat.le_of_ble_eq_true rfl)⟩) (PV hPc (hK.sub (tys' := (tX11 kq ((cB34, .int) :: (cB35, .int) :: []))) [0, 1, 2, 3, 4, 5, 6, 7, 8, 9, 10, 11, 12, 13, 14, 15] rfl) hDc hN 0 rfl rfl) rfl rfl hl.1 rfl (lv_room (Nat.le_of_ble_eq_true rfl)) (zat zrX12_landed_0_ok 24 rfl) ⟨(Nat.le_of_ble_eq_true rfl), (Nat.le_of_ble_eq_true rfl)⟩)) (fun _ H locs hw hP hD _ hS => ?_)
    obtain ⟨hP, hD⟩ := pd_mk ((a0, .inr (9, [.int 0, .int m_t.2.1, .int m_t.2.2, .ref a3, g12, g13, g14, g15, g16, g17, g18, g19, g20, g21, g22, .ref a4, .ref a5, g23, g24, g25, g26, g27, g28, g29, g30, g31, g32, .int o38.2.1, .int o38.2.2.1, .int o38.2.2.2])) :: bX11 a3 uq kq q_q ([(a4, .inl (cB34, 26, .inl m_v)), (a5, .inl (cB35, 26, .inl o38.1))])) hP hD
    refine lv_aload_n hx hb (zat zrX12_landed_0_ok 25 rfl) rfl (lv_at hl 1 rfl) ?_
    refine lv_aload_n hx hb (zat zrX12_landed_0_ok 26 rfl) rfl (lv_at hl 1 rfl) ?_
    refine va_get (D := (dC, dI)) (ci := 9) (v := .int o38.2.2.1) (C := RX12) (T := TX12) (N := 30) hx hb hts ifX12_landed_X12 hown hK hP 0 rfl rfl 28 (by decide) (hts (.fieldLink RX12 479 "HookPierModel" "landedNow" "I") (List.mem_of_getElem? (i := 10) rfl)) (fun _ h9 => h9) rfl (zat zrX12_landed_0_ok 27 rfl) ?_
    obtain ⟨o46, eo46⟩ : ∃ o, o = f_X12_good o38.2.2.1 ((0 : Int32), m_t.2) := ⟨_, rfl⟩
    have h := nm_of h o46 eo46
    refine ck_i (wc := ([(a0, .inr (9, [.int 0, .int m_t.2.1, .int m_t.2.2, .ref a3, g12, g13, g14, g15, g16, g17, g18, g19, g20, g21, g22, .ref a4, .ref a5, g23, g24, g25, g26, g27, g28, g29, g30, g31, g32, .int o38.2.1, .int o38.2.2.1, .int o38.2.2.2]))])) (wr := (bX11 a3 uq kq q_q ([(a4, .inl (cB34, 26, .inl m_v)), (a5, .inl (cB35, 26, .inl o38.1))]))) hP hD hK hS hA [0] [1, 2, 3, 4, 5, 6, 7, 8, 9, 10, 11, 12, 13, 14, 15, 16, 17] rfl rfl (by decide) (by decide) (by decide) (fun hPc hDc => (va_runV (As := [.int o38.2.2.1]) (rest := []) ⟨hx, hb, hml, hown, hts⟩ (kfX12_good l dC dI a0 o38.2.2.1 ((0 : Int32), m_t.2) (.ref a3) (g12) (g13) (g14) (g15) (g16) (g17) (g18) (g19) (g20) (g21) (g22) (.ref a4) (.ref a5) (g23) (g24) (g25) (g26) (g27) (g28) (g29) (g30) (g31) (g32) (.int o38.2.1) (.int o38.2.2.1) (.int o38.2.2.2) H.size o46 eo46.symm) (cwV 1 hts gfX12_landed_2 rfl rfl rfl (by decide +kernel) ⟨(Nat.le_of_ble_eq_true rfl), (Nat.le_of_ble_eq_true rfl)⟩) (PV hPc (hK.sub (tys' := ([])) [] rfl) hDc hN 0 rfl rfl) rfl rfl hl.1 rfl (lv_room (Nat.le_of_ble_eq_true rfl)) (zat zrX12_landed_0_ok 28 rfl) ⟨(Nat.le_of_ble_eq_true rfl), (Nat.le_of_ble_eq_true rfl)⟩)) (fun r46 _ H locs hw hP hD _ hS => ?_)
    obtain rfl := hw
    obtain ⟨hP, hD⟩ := pd_mk (bX11 a3 uq kq q_q ([(a4, .inl (cB34, 26, .inl m_v)), (a5, .inl (cB35, 26, .inl o38.1)), (a0, .inr (9, [.int o46.2.1, .int o46.2.2.1, .int o46.2.2.2, .ref a3, g12, g13, g14, g15, g16, g17, g18, g19, g20, g21, g22, .ref a4, .ref a5, g23, g24, g25, g26, g27, g28, g29, g30, g31, g32, .int o38.2.1, .int o38.2.2.1, .int o38.2.2.2]))])) hP hD
    obtain rfl := Option.some.inj h
    obtain ⟨hP9, hD9⟩ := pd_sub ((a0, .inr (9, [.int o46.2.1, .int o46.2.2.1, .int o46.2.2.2, .ref a3, g12, g13, g14, g15, g16, g17, g18, g19, g20, g21, g22, .ref a4, .ref a5, g23, g24, g25, g26, g27, g28, g29, g30, g31, g32, .int o38.2.1, .int o38.2.2.1, .int o38.2.2.2])) :: bX11 a3 uq kq q_q ([(a4, .inl (cB34, 26, .inl m_v)), (a5, .inl (cB35, 26, .inl o38.1))])) [17, 0, 1, 2, 3, 4, 5, 6, 7, 8, 9, 10, 11, 12, 13, 14, 15, 16] hP hD (by decide) rfl
    have hK9 := hK.sub (tys' := []) [] rfl
    rw [hQQ]
    exact W.iret (v := o46.1) hx hb hr (fun t ht hW => ⟨⟨o46.1, (), rfl, rfl, by rw [ht]; exact hP9, va_K.moved hW.alike hK9, hD9⟩, hS.F ht⟩) hS.2.2 (zat zrX12_landed_0_ok 29 rfl)
  · have h := (if_neg c25).symm.trans h
    refine lv_aload_n hx hb (zat zrX12_landed_0_ok 16 rfl) rfl (lv_at hl 1 rfl) ?_
    refine lv_iload_n hx hb (zat zrX12_landed_0_ok 17 rfl) rfl (lv_at hl 0 rfl) ?_
    obtain ⟨o30, eo30⟩ : ∃ o, o = f_X12_refused o20 ((0 : Int32), m_t.2) := ⟨_, rfl⟩
    have h := nm_of h o30 eo30
    refine ck_i (wc := ([(a0, .inr (9, [.int 0, .int m_t.2.1, .int m_t.2.2, .ref a3, g12, g13, g14, g15, g16, g17, g18, g19, g20, g21, g22, .ref a4, .ref a5, g23, g24, g25, g26, g27, g28, g29, g30, g31, g32, .int m_c.1, .int m_c.2.1, .int m_c.2.2]))])) (wr := (bX11 a3 uq kq q_q ([(a4, .inl (cB34, 26, .inl m_v)), (a5, .inl (cB35, 26, .inl m_w))]))) hP hD hK hS hA [17] [0, 1, 2, 3, 4, 5, 6, 7, 8, 9, 10, 11, 12, 13, 14, 15, 16] rfl rfl (by decide) (by decide) (by decide) (fun hPc hDc => (va_runV (As := [.int o20]) (rest := []) ⟨hx, hb, hml, hown, hts⟩ (kfX12_refused l dC dI a0 o20 ((0 : Int32), m_t.2) (.ref a3) (g12) (g13) (g14) (g15) (g16) (g17) (g18) (g19) (g20) (g21) (g22) (.ref a4) (.ref a5) (g23) (g24) (g25) (g26) (g27) (g28) (g29) (g30) (g31) (g32) (.int m_c.1) (.int m_c.2.1) (.int m_c.2.2) H.size o30 eo30.symm) (cwV 1 hts gfX12_landed_3 rfl rfl rfl (by decide +kernel) ⟨(Nat.le_of_ble_eq_true rfl), (Nat.le_of_ble_eq_true rfl)⟩) (PV hPc (hK.sub (tys' := ([])) [] rfl) hDc hN 0 rfl rfl) rfl rfl hl.1 rfl (lv_room (Nat.le_of_ble_eq_true rfl)) (zat zrX12_landed_0_ok 18 rfl) ⟨(Nat.le_of_ble_eq_true rfl), (Nat.le_of_ble_eq_true rfl)⟩)) (fun r30 _ H locs hw hP hD _ hS => ?_)
    obtain rfl := hw
    obtain ⟨hP, hD⟩ := pd_mk (bX11 a3 uq kq q_q ([(a4, .inl (cB34, 26, .inl m_v)), (a5, .inl (cB35, 26, .inl m_w)), (a0, .inr (9, [.int o30.1, .int o30.2.1, .int o30.2.2, .ref a3, g12, g13, g14, g15, g16, g17, g18, g19, g20, g21, g22, .ref a4, .ref a5, g23, g24, g25, g26, g27, g28, g29, g30, g31, g32, .int m_c.1, .int m_c.2.1, .int m_c.2.2]))])) hP hD
    obtain rfl := Option.some.inj h
    obtain ⟨hP9, hD9⟩ := pd_sub ((a0, .inr (9, [.int o30.1, .int o30.2.1, .int o30.2.2, .ref a3, g12, g13, g14, g15, g16, g17, g18, g19, g20, g21, g22, .ref a4, .ref a5, g23, g24, g25, g26, g27, g28, g29, g30, g31, g32, .int m_c.1, .int m_c.2.1, .int m_c.2.2])) :: bX11 a3 uq kq q_q ([(a4, .inl (cB34, 26, .inl m_v)), (a5, .inl (cB35, 26, .inl m_w))])) [17, 0, 1, 2, 3, 4, 5, 6, 7, 8, 9, 10, 11, 12, 13, 14, 15, 16] hP hD (by decide) rfl
    have hK9 := hK.sub (tys' := []) [] rfl
    rw [hQQ]
    exact W.iret (v := (-1 : Int32)) hx hb hr (fun t ht hW => ⟨⟨(-1 : Int32), (), rfl, rfl, by rw [ht]; exact hP9, va_K.moved hW.alike hK9, hD9⟩, hS.F ht⟩) hS.2.2 (zat zrX12_landed_0_ok 19 rfl)
