noncomputable def zrX12_freeSpots_0 : List ZR := zc 0 true (.aload_n 0) 1 (zc 1 true (.iconst 0) 1 (zc 2 true (.putfield 36) 3 (zc 5 true (.aload_n 0) 1 (zc 6 true (.iload_n 1) 1 (zc 7 true (.invokevirtual 334) 3 (zc 10 true (.ifCond .ne 9) 3 (zc 13 true (.aload_n 0) 1 (zc 14 true (.iconst 1) 1 (zc 15 true (.invokevirtual 42) 3 (zc 18 true (.ireturn) 1 (zc 19 true (.iconst 0) 1 (zc 20 true (.istore_n 2) 1 (zc 21 true (.iconst 0) 1 (zc 22 true (.istore_n 3) 1 (zc 23 true (.iload_n 3) 1 (zc 24 true (.aload_n 0) 1 (zc 25 true (.getfield 299) 3 (zc 28 true (.getfield 143) 3 (zc 31 true (.if_icmp .ge 102) 3 (zc 34 true (.iconst 1) 1 (zc 35 true (.istore 4) 2 (zc 37 true (.iconst 0) 1 (zc 38 true (.istore 5) 2 (zc 40 true (.iload 5) 2 (zc 42 true (.aload_n 0) 1 (zc 43 true (.getfield 299) 3 (zc 46 true (.getfield 224) 3 (zc 49 true (.if_icmp .ge 67) 3 (zc 52 true (.iload 4) 2 (zc 54 true (.ifCond .eq 53) 3 (zc 57 true (.iload 5) 2 (zc 59 true (.iload_n 1) 1 (zc 60 true (.if_icmp .eq 43) 3 (zc 63 true (.aload_n 0) 1 (zc 64 true (.getfield 17) 3 (zc 67 true (.bipush 18) 2 (zc 69 true (.iload 5) 2 (zc 71 true (.iadd) 1 (zc 72 true (.iaload) 1 (zc 73 true (.bipush (-2)) 2 (zc 75 true (.if_icmp .eq 28) 3 (zc 78 true (.aload_n 0) 1 (zc 79 true (.iload_n 1) 1 (zc 80 true (.iload_n 3) 1 (zc 81 true (.iload 5) 2 (zc 83 true (.aload_n 0) 1 (zc 84 true (.aload_n 0) 1 (zc 85 true (.getfield 17) 3 (zc 88 true (.bipush 18) 2 (zc 90 true (.iload 5) 2 (zc 92 true (.iadd) 1 (zc 93 true (.iaload) 1 (zc 94 true (.invokevirtual 307) 3 (zc 97 true (.invokevirtual 330) 3 (zc 100 true (.ifCond .ne 7) 3 (zc 103 true (.iconst 1) 1 (zc 104 true (.goto 4) 3 (zc 107 true (.iconst 0) 1 (zc 108 true (.istore 4) 2 (zc 110 true (.iinc 5 1) 3 (zc 113 true (.goto (-73)) 3 (zc 116 true (.iload 4) 2 (zc 118 true (.ifCond .eq 9) 3 ([]))))))))))))))))))))))))))))))))))))))))))))))))))))))))))))))))
theorem zrX12_freeSpots_0_ok : zck 0 ((zby cX12_freeSpots).drop 0) zrX12_freeSpots_0 = true := by decide +kernel
noncomputable def zrX12_freeSpots_1 : List ZR := zc 121 true (.iload_n 2) 1 (zc 122 true (.iconst 1) 1 (zc 123 true (.iload_n 3) 1 (zc 124 true (.ishl) 1 (zc 125 true (.ior) 1 (zc 126 true (.istore_n 2) 1 (zc 127 true (.iinc 3 1) 3 (zc 130 true (.goto (-107)) 3 (zc 133 true (.aload_n 0) 1 (zc 134 true (.iload_n 2) 1 (zc 135 true (.invokevirtual 46) 3 (zc 138 true (.ireturn) 1 ([]))))))))))))
theorem zrX12_freeSpots_1_ok : zck 121 ((zby cX12_freeSpots).drop 121) zrX12_freeSpots_1 = true := by decide +kernel
def vfX12_freeSpots : List Cond := List.cons (.code yX12_freeSpots cX12_freeSpots 6 (some .int)) (apW [.fieldLink RX12 36 "HookPierModel" "thrown" "I", .methodLink RX12 334 yX12_isAsker, .instanceMethod yX12_isAsker, .selects RX12 yX12_isAsker yX12_isAsker, .initialized RX12, .fieldLink RX12 299 "HookPierModel" "pier" "LHookPierModel$Pier;", .methodLink RX12 46 yX12_good, .instanceMethod yX12_good, .selects RX12 yX12_good yX12_good, .fieldLink RX12 17 "HookPierModel" "v" "[I", .methodLink RX12 307 yX12_spotOf, .instanceMethod yX12_spotOf, .selects RX12 yX12_spotOf yX12_spotOf, .methodLink RX12 330 yX12_areTangled, .instanceMethod yX12_areTangled, .selects RX12 yX12_areTangled yX12_areTangled, .methodLink RX12 42 yX12_refused, .instanceMethod yX12_refused, .selects RX12 yX12_refused yX12_refused] (apW wsX120 (apW wsX110 (apW vfX12_isAsker (apW vfX12_good (apW vfX12_spotOf (apW vfX12_areTangled (vfX12_refused))))))))
theorem ifX12_freeSpots_X12 : ∀ w ∈ wsX120, w ∈ vfX12_freeSpots := fun _ h => (List.mem_cons_of_mem _ (List.mem_append_right _ (List.mem_append_left _ h)))
theorem ifX12_freeSpots_X11 : ∀ w ∈ wsX110, w ∈ vfX12_freeSpots := fun _ h => (List.mem_cons_of_mem _ (List.mem_append_right _ (List.mem_append_right _ (List.mem_append_left _ h))))
theorem qfX12_freeSpots : Good vfX12_freeSpots := gd_cons (by decide +kernel) (gd_app (gd_dec (by decide +kernel) : Good [.fieldLink RX12 36 "HookPierModel" "thrown" "I", .methodLink RX12 334 yX12_isAsker, .instanceMethod yX12_isAsker, .selects RX12 yX12_isAsker yX12_isAsker, .initialized RX12, .fieldLink RX12 299 "HookPierModel" "pier" "LHookPierModel$Pier;", .methodLink RX12 46 yX12_good, .instanceMethod yX12_good, .selects RX12 yX12_good yX12_good, .fieldLink RX12 17 "HookPierModel" "v" "[I", .methodLink RX12 307 yX12_spotOf, .instanceMethod yX12_spotOf, .selects RX12 yX12_spotOf yX12_spotOf, .methodLink RX12 330 yX12_areTangled, .instanceMethod yX12_areTangled, .selects RX12 yX12_areTangled yX12_areTangled, .methodLink RX12 42 yX12_refused, .instanceMethod yX12_refused, .selects RX12 yX12_refused yX12_refused]) (gd_app qsX12 (gd_app qsX11 (gd_app qfX12_isAsker (gd_app qfX12_good (gd_app qfX12_spotOf (gd_app qfX12_areTangled qfX12_refused)))))))
theorem gfX12_freeSpots_0 : GoodIn vfX12_freeSpots (wsV RX12 334 RX12 yX12_isAsker vfX12_isAsker) := goodIn_app (goodIn_r [.methodLink RX12 334 yX12_isAsker, .instanceMethod yX12_isAsker, .selects RX12 yX12_isAsker yX12_isAsker, .initialized RX12] [2, 3, 4, 5] rfl (by decide +kernel)) (goodIn_m (fun _ h => (List.mem_cons_of_mem _ (List.mem_append_right _ (List.mem_append_right _ (List.mem_append_right _ (List.mem_append_left _ h)))))) qfX12_isAsker)
theorem gfX12_freeSpots_1 : GoodIn vfX12_freeSpots (wsV RX12 46 RX12 yX12_good vfX12_good) := goodIn_app (goodIn_r [.methodLink RX12 46 yX12_good, .instanceMethod yX12_good, .selects RX12 yX12_good yX12_good, .initialized RX12] [7, 8, 9, 5] rfl (by decide +kernel)) (goodIn_m (fun _ h => (List.mem_cons_of_mem _ (List.mem_append_right _ (List.mem_append_right _ (List.mem_append_right _ (List.mem_append_right _ (List.mem_append_left _ h))))))) qfX12_good)
theorem gfX12_freeSpots_2 : GoodIn vfX12_freeSpots (wsV RX12 307 RX12 yX12_spotOf vfX12_spotOf) := goodIn_app (goodIn_r [.methodLink RX12 307 yX12_spotOf, .instanceMethod yX12_spotOf, .selects RX12 yX12_spotOf yX12_spotOf, .initialized RX12] [11, 12, 13, 5] rfl (by decide +kernel)) (goodIn_m (fun _ h => (List.mem_cons_of_mem _ (List.mem_append_right _ (List.mem_append_right _ (List.mem_append_right _ (List.mem_append_right _ (List.mem_append_right _ (List.mem_append_left _ h)))))))) qfX12_spotOf)
theorem gfX12_freeSpots_3 : GoodIn vfX12_freeSpots (wsV RX12 330 RX12 yX12_areTangled vfX12_areTangled) := goodIn_app (goodIn_r [.methodLink RX12 330 yX12_areTangled, .instanceMethod yX12_areTangled, .selects RX12 yX12_areTangled yX12_areTangled, .initialized RX12] [14, 15, 16, 5] rfl (by decide +kernel)) (goodIn_m (fun _ h => (List.mem_cons_of_mem _ (List.mem_append_right _ (List.mem_append_right _ (List.mem_append_right _ (List.mem_append_right _ (List.mem_append_right _ (List.mem_append_right _ (List.mem_append_left _ h))))))))) qfX12_areTangled)
theorem gfX12_freeSpots_4 : GoodIn vfX12_freeSpots (wsV RX12 42 RX12 yX12_refused vfX12_refused) := goodIn_app (goodIn_r [.methodLink RX12 42 yX12_refused, .instanceMethod yX12_refused, .selects RX12 yX12_refused yX12_refused, .initialized RX12] [17, 18, 19, 5] rfl (by decide +kernel)) (goodIn_m (fun _ h => (List.mem_cons_of_mem _ (List.mem_append_right _ (List.mem_append_right _ (List.mem_append_right _ (List.mem_append_right _ (List.mem_append_right _ (List.mem_append_right _ (List.mem_append_right _ h))))))))) qfX12_refused)
set_option maxHeartbeats 2000000 in
set_option maxRecDepth 100000 in
theorem kfX12_freeSpots (l : Launch) (dC : Nat → ClassId) (dI : Nat → Nat → Nat) (a0 : Nat) (k1 : Int32) (a2 : Nat) (a3 : Nat) (uq : Nat → Nat) (kq : Nat → ClassId) (m_t : TX12_t) (m_v : TX12_v) (g8 : Value) (g9 : Value) (g10 : Value) (g11 : Value) (g12 : Value) (g13 : Value) (g14 : Value) (g15 : Value) (g16 : Value) (g17 : Value) (g18 : Value) (g19 : Value) (g20 : Value) (g21 : Value) (g22 : Value) (g23 : Value) (g24 : Value) (g25 : Value) (g26 : Value) (g27 : Value) (g28 : Value) (g29 : Value) (g30 : Value) (g31 : Value) (g32 : Value) (q_q : TX11_q) (cB34 : ClassId) (sz : Nat) (out : (Int32 × TX12_t)) (h : f_X12_freeSpots k1 m_t m_v q_q = some out) : KCi l yX12_freeSpots vfX12_freeSpots ({ frames := 2, cells := 0, slots := 0, locals := 45 }) (dC, dI) [.ref a0, .int k1] sz ((a0, .inr (9, [.int m_t.1, .int m_t.2.1, .int m_t.2.2, .ref a2, g8, g9, g10, g11, g12, g13, g14, g15, g16, g17, g18, .ref a3, g19, g20, g21, g22, g23, g24, g25, g26, g27, g28, g29, g30, g31, g32])) :: bX11 a2 uq kq q_q ([(a3, .inl (cB34, 26, .inl m_v))])) (tX11 kq ((cB34, .int) :: [])) (fun (r : Int32) _ => r = out.1) ((a0, .inr (9, [.int out.2.1, .int out.2.2.1, .int out.2.2.2, .ref a2, g8, g9, g10, g11, g12, g13, g14, g15, g16, g17, g18, .ref a3, g19, g20, g21, g22, g23, g24, g25, g26, g27, g28, g29, g30, g31, g32])) :: bX11 a2 uq kq q_q ([(a3, .inl (cB34, 26, .inl m_v))])) 0 0 := by
  refine Met.ofW (cc := cX12_freeSpots) (maxL := 6) (ret := (some .int)) (by decide) rfl ?_
  intro p e s m args below meth c s₁ B0 hml hv
  obtain ⟨rfl, hsz, hP, hK, hD0, hN⟩ := hv
  have hx := B0.exec
  have hb := B0.bytes
  have hr := B0.returns
  have hts := atoms_spec (ws := vfX12_freeSpots) B0.pre
  have hown : s.vm.findClass RX12 = some m.cls := findClass_of_methodNamed B0.named
  have hlocks := B0.notSynchronized
  subst hsz
  have hD := hD0.self (sz := s.heap.size)
  generalize hAe : va_A ((a0, .inr (9, [.int m_t.1, .int m_t.2.1, .int m_t.2.2, .ref a2, g8, g9, g10, g11, g12, g13, g14, g15, g16, g17, g18, .ref a3, g19, g20, g21, g22, g23, g24, g25, g26, g27, g28, g29, g30, g31, g32])) :: bX11 a2 uq kq q_q ([(a3, .inl (cB34, 26, .inl m_v))])) s.heap.size = A at hD ⊢
  have hA : ∀ q : Nat, s.heap.size ≤ q → A q := fun q h => by rw [← hAe]; exact Or.inr h
  have hS : va_S A s.heap s.heap [] := va_S.rf
  have hP : va_P (dC, dI) vwCl ((a0, .inr (9, [.int m_t.1, .int m_t.2.1, .int m_t.2.2, .ref a2, g8, g9, g10, g11, g12, g13, g14, g15, g16, g17, g18, .ref a3, g19, g20, g21, g22, g23, g24, g25, g26, g27, g28, g29, g30, g31, g32])) :: bX11 a2 uq kq q_q ([(a3, .inl (cB34, 26, .inl m_v))])) s.heap := hP
  have hl := lv_entry ([.ref a0, .int k1]) (n := 6) (Nat.le_of_ble_eq_true rfl)
  rw [lg_entry_eq]
  generalize (lg_sl ([.ref a0, .int k1]) ++ List.replicate (6 - (lg_sl ([.ref a0, .int k1])).length) Slot.unset).toArray = ls at hl ⊢
  have hl : lv_has ls 6 [(0, .ref a0), (1, .int k1)] := hl
  refine W_q (fun QQ hQQ => ?_)
  rw [f_X12_freeSpots] at h
  refine lv_aload_n hx hb (zat zrX12_freeSpots_0_ok 0 rfl) rfl (lv_at hl 0 rfl) ?_
  refine lv_iconst (v := 0) hx hb (zat zrX12_freeSpots_0_ok 1 rfl) (by decide) ?_
  refine va_put (D := (dC, dI)) (ci := 9) (v := .int 0) (ty := .int) (C := RX12) (T := TX12) (N := 30) hx hb hts ifX12_freeSpots_X12 tyX12 tyX12_ok nmX12 hown hK hP hD hS 0 rfl rfl 0 (by decide) (hts (.fieldLink RX12 36 "HookPierModel" "thrown" "I") (List.mem_of_getElem? (i := 1) rfl)) (fun _ h9 => h9) rfl (by decide +kernel) rfl rfl (Nat.le_of_ble_eq_true rfl) (zat zrX12_freeSpots_0_ok 2 rfl) (fun H locs hP hD hS => ?_)
  obtain ⟨hP, hD⟩ := pd_mk ((a0, .inr (9, [.int 0, .int m_t.2.1, .int m_t.2.2, .ref a2, g8, g9, g10, g11, g12, g13, g14, g15, g16, g17, g18, .ref a3, g19, g20, g21, g22, g23, g24, g25, g26, g27, g28, g29, g30, g31, g32])) :: bX11 a2 uq kq q_q ([(a3, .inl (cB34, 26, .inl m_v))])) hP hD
  refine lv_aload_n hx hb (zat zrX12_freeSpots_0_ok 3 rfl) rfl (lv_at hl 0 rfl) ?_
  refine lv_iload_n hx hb (zat zrX12_freeSpots_0_ok 4 rfl) rfl (lv_at hl 1 rfl) ?_
  obtain ⟨o7, eo7⟩ : ∃ o, o = f_X12_isAsker k1 q_q := ⟨_, rfl⟩
  have h := nm_of h o7 eo7
  refine ck_i (wc := ((a0, .inr (9, [.int 0, .int m_t.2.1, .int m_t.2.2, .ref a2, g8, g9, g10, g11, g12, g13, g14, g15, g16, g17, g18, .ref a3, g19, g20, g21, g22, g23, g24, g25, g26, g27, g28, g29, g30, g31, g32])) :: bX11 a2 uq kq q_q [])) (wr := ([(a3, .inl (cB34, 26, .inl m_v))])) hP hD hK hS hA [0, 1, 2, 3, 4, 5, 6, 7, 8, 9, 10, 11, 12, 13, 14, 15] [16] rfl rfl (by decide) (by decide) (by decide) (fun hPc hDc => (va_runV (As := [.int k1]) (rest := []) ⟨hx, hb, hml, hown, hts⟩ (kfX12_isAsker l dC dI a0 k1 a2 uq kq (.int 0) (.int m_t.2.1) (.int m_t.2.2) (g8) (g9) (g10) (g11) (g12) (g13) (g14) (g15) (g16) (g17) (g18) (.ref a3) (g19) (g20) (g21) (g22) (g23) (g24) (g25) (g26) (g27) (g28) (g29) (g30) (g31) (g32) q_q H.size o7 eo7.symm) (cwV 1 hts gfX12_freeSpots_0 rfl rfl rfl (by decide +kernel) ⟨(Nat.le_of_ble_eq_true rfl), (Nat.le_of_ble_eq_true rfl)⟩) (PV hPc (hK.sub (tys' := (tX11 kq ([]))) [0, 1, 2, 3, 4, 5, 6, 7, 8, 9, 10, 11, 12, 13] rfl) hDc hN 0 rfl rfl) rfl rfl hl.1 rfl (lv_room (Nat.le_of_ble_eq_true rfl)) (zat zrX12_freeSpots_0_ok 5 rfl) ⟨(Nat.le_of_ble_eq_true rfl), (Nat.le_of_ble_eq_true rfl)⟩)) (fun r7 _ H locs hw hP hD _ hS => ?_)
  obtain ⟨hw, br7⟩ := hw
  obtain rfl := hw.symm
  obtain ⟨hP, hD⟩ := pd_mk ((a3, .inl (cB34, 26, .inl m_v)) :: (a0, .inr (9, [.int 0, .int m_t.2.1, .int m_t.2.2, .ref a2, g8, g9, g10, g11, g12, g13, g14, g15, g16, g17, g18, .ref a3, g19, g20, g21, g22, g23, g24, g25, g26, g27, g28, g29, g30, g31, g32])) :: bX11 a2 uq kq q_q []) hP hD
  refine lv_if_ne (tgt := 19) hx hb (zat zrX12_freeSpots_0_ok 6 rfl) (by decide) (fun c10 => ?_) (fun c10 => ?_)
  · have h := (if_neg c10).symm.trans h
    refine lv_iconst (v := 0) hx hb (zat zrX12_freeSpots_0_ok 11 rfl) (by decide) ?_
    refine lv_istore_n (lv' := [(2, .int 0), (0, .ref a0), (1, .int k1)]) hx hb (zat zrX12_freeSpots_0_ok 12 rfl) rfl hl (by decide) rfl (fun ls hl => ?_)
    refine lv_iconst (v := 0) hx hb (zat zrX12_freeSpots_0_ok 13 rfl) (by decide) ?_
    refine lv_istore_n (lv' := [(3, .int 0), (2, .int 0), (0, .ref a0), (1, .int k1)]) hx hb (zat zrX12_freeSpots_0_ok 14 rfl) rfl hl (by decide) rfl (fun ls hl => ?_)
    have L23 : ∀ (n23 : Nat) (v23_l3 : Int32) (v23_l2 : Int32) (H : Heap) (locs : List Loc) (ls : Array Slot), f_X12_freeSpots_L23 k1 m_t m_v q_q n23 v23_l3 v23_l2 = some out → va_P (dC, dI) vwCl ((a3, .inl (cB34, 26, .inl m_v)) :: (a0, .inr (9, [.int 0, .int m_t.2.1, .int m_t.2.2, .ref a2, g8, g9, g10, g11, g12, g13, g14, g15, g16, g17, g18, .ref a3, g19, g20, g21, g22, g23, g24, g25, g26, g27, g28, g29, g30, g31, g32])) :: bX11 a2 uq kq q_q []) H → va_D A ((a3, .inl (cB34, 26, .inl m_v)) :: (a0, .inr (9, [.int 0, .int m_t.2.1, .int m_t.2.2, .ref a2, g8, g9, g10, g11, g12, g13, g14, g15, g16, g17, g18, .ref a3, g19, g20, g21, g22, g23, g24, g25, g26, g27, g28, g29, g30, g31, g32])) :: bX11 a2 uq kq q_q []) → va_S A s.heap H locs → lv_has ls 6 [(3, .int v23_l3), (2, .int v23_l2), (0, .ref a0), (1, .int k1)] → W p l e (headSpec vfX12_freeSpots { frames := 2, cells := 0, slots := 0, locals := 45 }).room s m ([.ref a0, .int k1]).toArray below meth c H locs 0 0 QQ (F0 m 23 ls []) := by
      intro n23
      induction n23 with
      | zero =>
        intro v23_l3 v23_l2 H locs ls h  _ _ _ _
        rw [f_X12_freeSpots_L23] at h
        cases h
      | succ n23 ih23 =>
        intro v23_l3 v23_l2 H locs ls h  hP hD hS hl
        rw [f_X12_freeSpots_L23] at h
        refine lv_iload_n hx hb (zat zrX12_freeSpots_0_ok 15 rfl) rfl (lv_at hl 0 rfl) ?_
        refine lv_aload_n hx hb (zat zrX12_freeSpots_0_ok 16 rfl) rfl (lv_at hl 2 rfl) ?_
        refine va_get (D := (dC, dI)) (ci := 9) (v := .ref a2) (C := RX12) (T := TX12) (N := 30) hx hb hts ifX12_freeSpots_X12 hown hK hP 1 rfl rfl 3 (by decide) (hts (.fieldLink RX12 299 "HookPierModel" "pier" "LHookPierModel$Pier;") (List.mem_of_getElem? (i := 6) rfl)) (fun _ h9 => h9) rfl (zat zrX12_freeSpots_0_ok 17 rfl) ?_
        refine va_getN (D := (dC, dI)) (ci := 8) (v := .int q_q.1) (C := RX11) (T := TX11) (N := 24) hx hb hts ifX12_freeSpots_X11 hown hK hP 2 rfl rfl 0 (by decide) (va_Nw.use rfl (hN.1 (.fieldLinkNest RX12 143 "HookPierModel$Pier" "spots" "I" "HookPierModel") (List.mem_of_getElem? (i := 22) rfl))) (fun _ h9 => h9) rfl (zat zrX12_freeSpots_0_ok 18 rfl) ?_
        refine lv_icmp_ge (tgt := 133) hx hb (zat zrX12_freeSpots_0_ok 19 rfl) (by decide) (fun c31 => ?_) (fun c31 => ?_)
        · have h := (if_pos c31).symm.trans h
          refine lv_aload_n hx hb (zat zrX12_freeSpots_1_ok 8 rfl) rfl (lv_at hl 2 rfl) ?_
          refine lv_iload_n hx hb (zat zrX12_freeSpots_1_ok 9 rfl) rfl (lv_at hl 1 rfl) ?_
          obtain ⟨o135, eo135⟩ : ∃ o, o = f_X12_good v23_l2 ((0 : Int32), m_t.2) := ⟨_, rfl⟩
          have h := nm_of h o135 eo135
          refine ck_i (wc := ([(a0, .inr (9, [.int 0, .int m_t.2.1, .int m_t.2.2, .ref a2, g8, g9, g10, g11, g12, g13, g14, g15, g16, g17, g18, .ref a3, g19, g20, g21, g22, g23, g24, g25, g26, g27, g28, g29, g30, g31, g32]))])) (wr := ((a3, .inl (cB34, 26, .inl m_v)) :: bX11 a2 uq kq q_q [])) hP hD hK hS hA [1] [0, 2, 3, 4, 5, 6, 7, 8, 9, 10, 11, 12, 13, 14, 15, 16] rfl rfl (by decide) (by decide) (by decide) (fun hPc hDc => (va_runV (As := [.int v23_l2]) (rest := []) ⟨hx, hb, hml, hown, hts⟩ (kfX12_good l dC dI a0 v23_l2 ((0 : Int32), m_t.2) (.ref a2) (g8) (g9) (g10) (g11) (g12) (g13) (g14) (g15) (g16) (g17) (g18) (.ref a3) (g19) (g20) (g21) (g22) (g23) (g24) (g25) (g26) (g27) (g28) (g29) (g30) (g31) (g32) H.size o135 eo135.symm) (cwV 1 hts gfX12_freeSpots_1 rfl rfl rfl (by decide +kernel) ⟨(Nat.le_of_ble_eq_true rfl), (Nat.le_of_ble_eq_true rfl)⟩) (PV hPc (hK.sub (tys' := ([])) [] rfl) hDc hN 0 rfl rfl) rfl rfl hl.1 rfl (lv_room (Nat.le_of_ble_eq_true rfl)) (zat zrX12_freeSpots_1_ok 10 rfl) ⟨(Nat.le_of_ble_eq_true rfl), (Nat.le_of_ble_eq_true rfl)⟩)) (fun r135 _ H locs hw hP hD _ hS => ?_)
          obtain rfl := hw
          obtain ⟨hP, hD⟩ := pd_mk ((a3, .inl (cB34, 26, .inl m_v)) :: bX11 a2 uq kq q_q ([(a0, .inr (9, [.int o135.2.1, .int o135.2.2.1, .int o135.2.2.2, .ref a2, g8, g9, g10, g11, g12, g13, g14, g15, g16, g17, g18, .ref a3, g19, g20, g21, g22, g23, g24, g25, g26, g27, g28, g29, g30, g31, g32]))])) hP hD
          obtain rfl := Option.some.inj h
          obtain ⟨hP9, hD9⟩ := pd_sub ((a0, .inr (9, [.int o135.2.1, .int o135.2.2.1, .int o135.2.2.2, .ref a2, g8, g9, g10, g11, g12, g13, g14, g15, g16, g17, g18, .ref a3, g19, g20, g21, g22, g23, g24, g25, g26, g27, g28, g29, g30, g31, g32])) :: bX11 a2 uq kq q_q ([(a3, .inl (cB34, 26, .inl m_v))])) [16, 1, 2, 3, 4, 5, 6, 7, 8, 9, 10, 11, 12, 13, 14, 15, 0] hP hD (by decide) rfl
          have hK9 := hK.sub (tys' := []) [] rfl
          rw [hQQ]
          exact W.iret (v := o135.1) hx hb hr (fun t ht hW => ⟨⟨o135.1, (), rfl, rfl, by rw [ht]; exact hP9, va_K.moved hW.alike hK9, hD9⟩, hS.F ht⟩) hS.2.2 (zat zrX12_freeSpots_1_ok 11 rfl)
        · have h := (if_neg c31).symm.trans h
          refine lv_iconst (v := 1) hx hb (zat zrX12_freeSpots_0_ok 20 rfl) (by decide) ?_
          refine lv_istore (lv' := [(4, .int 1), (3, .int v23_l3), (2, .int v23_l2), (0, .ref a0), (1, .int k1)]) hx hb (zat zrX12_freeSpots_0_ok 21 rfl) hl (by decide) rfl (fun ls hl => ?_)
          refine lv_iconst (v := 0) hx hb (zat zrX12_freeSpots_0_ok 22 rfl) (by decide) ?_
          refine lv_istore (lv' := [(5, .int 0), (4, .int 1), (3, .int v23_l3), (2, .int v23_l2), (0, .ref a0), (1, .int k1)]) hx hb (zat zrX12_freeSpots_0_ok 23 rfl) hl (by decide) rfl (fun ls hl => ?_)
          have L40 : ∀ (n40 : Nat) (v40_l5 : Int32) (v40_l4 : Int32) (H : Heap) (locs : List Loc) (ls : Array Slot), f_X12_freeSpots_L40 k1 m_v q_q (f_X12_freeSpots_L23 k1 m_t m_v q_q n23) v23_l2 v23_l3 n40 v40_l5 v40_l4 = some out → 0 ≤ v40_l4.toInt ∧ v40_l4.toInt ≤ 1 → va_P (dC, dI) vwCl ((a3, .inl (cB34, 26, .inl m_v)) :: (a0, .inr (9, [.int 0, .int m_t.2.1, .int m_t.2.2, .ref a2, g8, g9, g10, g11, g12, g13, g14, g15, g16, g17, g18, .ref a3, g19, g20, g21, g22, g23, g24, g25, g26, g27, g28, g29, g30, g31, g32])) :: bX11 a2 uq kq q_q []) H → va_D A ((a3, .inl (cB34, 26, .inl m_v)) :: (a0, .inr (9, [.int 0, .int m_t.2.1, .int m_t.2.2, .ref a2, g8, g9, g10, g11, g12, g13, g14, g15, g16, g17, g18, .ref a3, g19, g20, g21, g22, g23, g24, g25, g26, g27, g28, g29, g30, g31, g32])) :: bX11 a2 uq kq q_q []) → va_S A s.heap H locs → lv_has ls 6 [(5, .int v40_l5), (4, .int v40_l4), (3, .int v23_l3), (2, .int v23_l2), (0, .ref a0), (1, .int k1)] → W p l e (headSpec vfX12_freeSpots { frames := 2, cells := 0, slots := 0, locals := 45 }).room s m ([.ref a0, .int k1]).toArray below meth c H locs 0 0 QQ (F0 m 40 ls []) := by
            intro n40
            induction n40 with
            | zero =>
              intro v40_l5 v40_l4 H locs ls h _ _ _ _ _
              rw [f_X12_freeSpots_L40] at h
              cases h
            | succ n40 ih40 =>
              intro v40_l5 v40_l4 H locs ls h zb_v40_l4 hP hD hS hl
              rw [f_X12_freeSpots_L40] at h
              refine lv_iload hx hb (zat zrX12_freeSpots_0_ok 24 rfl) (lv_at hl 0 rfl) ?_
              refine lv_aload_n hx hb (zat zrX12_freeSpots_0_ok 25 rfl) rfl (lv_at hl 4 rfl) ?_
              refine va_get (D := (dC, dI)) (ci := 9) (v := .ref a2) (C := RX12) (T := TX12) (N := 30) hx hb hts ifX12_freeSpots_X12 hown hK hP 1 rfl rfl 3 (by decide) (hts (.fieldLink RX12 299 "HookPierModel" "pier" "LHookPierModel$Pier;") (List.mem_of_getElem? (i := 6) rfl)) (fun _ h9 => h9) rfl (zat zrX12_freeSpots_0_ok 26 rfl) ?_
              refine va_getN (D := (dC, dI)) (ci := 8) (v := .int q_q.2.2.2.2.2.1) (C := RX11) (T := TX11) (N := 24) hx hb hts ifX12_freeSpots_X11 hown hK hP 2 rfl rfl 5 (by decide) (va_Nw.use rfl (hN.1 (.fieldLinkNest RX12 224 "HookPierModel$Pier" "askers" "I" "HookPierModel") (List.mem_of_getElem? (i := 27) rfl))) (fun _ h9 => h9) rfl (zat zrX12_freeSpots_0_ok 27 rfl) ?_
              refine lv_icmp_ge (tgt := 116) hx hb (zat zrX12_freeSpots_0_ok 28 rfl) (by decide) (fun c49 => ?_) (fun c49 => ?_)
              · have h := (if_pos c49).symm.trans h
                refine lv_iload hx hb (zat zrX12_freeSpots_0_ok 62 rfl) (lv_at hl 1 rfl) ?_
                have J127 : ∀ (v127_l2 : Int32) (H : Heap) (locs : List Loc) (ls : Array Slot), f_X12_freeSpots_J127 (f_X12_freeSpots_L23 k1 m_t m_v q_q n23) v23_l3 v127_l2 = some out → va_P (dC, dI) vwCl ((a3, .inl (cB34, 26, .inl m_v)) :: (a0, .inr (9, [.int 0, .int m_t.2.1, .int m_t.2.2, .ref a2, g8, g9, g10, g11, g12, g13, g14, g15, g16, g17, g18, .ref a3, g19, g20, g21, g22, g23, g24, g25, g26, g27, g28, g29, g30, g31, g32])) :: bX11 a2 uq kq q_q []) H → va_D A ((a3, .inl (cB34, 26, .inl m_v)) :: (a0, .inr (9, [.int 0, .int m_t.2.1, .int m_t.2.2, .ref a2, g8, g9, g10, g11, g12, g13, g14, g15, g16, g17, g18, .ref a3, g19, g20, g21, g22, g23, g24, g25, g26, g27, g28, g29, g30, g31, g32])) :: bX11 a2 uq kq q_q []) → va_S A s.heap H locs → lv_has ls 6 [(3, .int v23_l3), (2, .int v127_l2), (0, .ref a0), (1, .int k1)] → W p l e (headSpec vfX12_freeSpots { frames := 2, cells := 0, slots := 0, locals := 45 }).room s m ([.ref a0, .int k1]).toArray below meth c H locs 0 0 QQ (F0 m 127 ls []) := by
                  intro v127_l2 H locs ls h  hP hD hS hl
                  rw [f_X12_freeSpots_J127] at h
                  refine lv_iinc (v := (v23_l3 + (1 : Int32))) (lv' := [(3, .int (v23_l3 + (1 : Int32))), (2, .int v127_l2), (0, .ref a0), (1, .int k1)]) hx hb (zat zrX12_freeSpots_1_ok 6 rfl) hl (k := 0) rfl rfl (by decide) rfl (fun ls hl => ?_)
                  refine lv_goto (tgt := 23) hx hb (zat zrX12_freeSpots_1_ok 7 rfl) (by decide) ?_
                  exact ih23 (v23_l3 + (1 : Int32)) v127_l2 H _ ls h  hP hD hS (lv_sub hl [0, 1, 2, 3] rfl)
                refine lv_if_eq (tgt := 127) hx hb (zat zrX12_freeSpots_0_ok 63 rfl) (by decide) (fun c118 => ?_) (fun c118 => ?_)
                · have h := (if_pos c118).symm.trans h
                  exact J127 v23_l2 H _ ls h  hP hD hS (lv_sub hl [2, 3, 4, 5] rfl)
                · have h := (if_neg c118).symm.trans h
                  refine lv_iload_n hx hb (zat zrX12_freeSpots_1_ok 0 rfl) rfl (lv_at hl 3 rfl) ?_
                  refine lv_iconst (v := 1) hx hb (zat zrX12_freeSpots_1_ok 1 rfl) (by decide) ?_
                  refine lv_iload_n hx hb (zat zrX12_freeSpots_1_ok 2 rfl) rfl (lv_at hl 2 rfl) ?_
                  refine lv_ishl hx hb (zat zrX12_freeSpots_1_ok 3 rfl) ?_
                  refine lv_ior hx hb (zat zrX12_freeSpots_1_ok 4 rfl) ?_
                  refine lv_istore_n (lv' := [(2, .int (v23_l2 ||| ((1 : Int32) <<< (v23_l3 &&& 31)))), (5, .int v40_l5), (4, .int v40_l4), (3, .int v23_l3), (0, .ref a0), (1, .int k1)]) hx hb (zat zrX12_freeSpots_1_ok 5 rfl) rfl hl (by decide) rfl (fun ls hl => ?_)
                  exact J127 (v23_l2 ||| ((1 : Int32) <<< (v23_l3 &&& 31))) H _ ls h  hP hD hS (lv_sub hl [3, 0, 4, 5] rfl)
              · have h := (if_neg c49).symm.trans h
                refine lv_iload hx hb (zat zrX12_freeSpots_0_ok 29 rfl) (lv_at hl 1 rfl) ?_
                have J108 : ∀ (v108_t0 : Int32) (H : Heap) (locs : List Loc) (ls : Array Slot), f_X12_freeSpots_J108 (f_X12_freeSpots_L40 k1 m_v q_q (f_X12_freeSpots_L23 k1 m_t m_v q_q n23) v23_l2 v23_l3 n40) v40_l5 v108_t0 = some out → 0 ≤ v108_t0.toInt ∧ v108_t0.toInt ≤ 1 → va_P (dC, dI) vwCl ((a3, .inl (cB34, 26, .inl m_v)) :: (a0, .inr (9, [.int 0, .int m_t.2.1, .int m_t.2.2, .ref a2, g8, g9, g10, g11, g12, g13, g14, g15, g16, g17, g18, .ref a3, g19, g20, g21, g22, g23, g24, g25, g26, g27, g28, g29, g30, g31, g32])) :: bX11 a2 uq kq q_q []) H → va_D A ((a3, .inl (cB34, 26, .inl m_v)) :: (a0, .inr (9, [.int 0, .int m_t.2.1, .int m_t.2.2, .ref a2, g8, g9, g10, g11, g12, g13, g14, g15, g16, g17, g18, .ref a3, g19, g20, g21, g22, g23, g24, g25, g26, g27, g28, g29, g30, g31, g32])) :: bX11 a2 uq kq q_q []) → va_S A s.heap H locs → lv_has ls 6 [(5, .int v40_l5), (3, .int v23_l3), (2, .int v23_l2), (0, .ref a0), (1, .int k1)] → W p l e (headSpec vfX12_freeSpots { frames := 2, cells := 0, slots := 0, locals := 45 }).room s m ([.ref a0, .int k1]).toArray below meth c H locs 0 0 QQ (F0 m 108 ls [.int v108_t0]) := by
                  intro v108_t0 H locs ls h zb_v108_t0 hP hD hS hl
                  rw [f_X12_freeSpots_J108] at h
                  refine lv_istore (lv' := [(4, .int v108_t0), (5, .int v40_l5), (3, .int v23_l3), (2, .int v23_l2), (0, .ref a0), (1, .int k1)]) hx hb (zat zrX12_freeSpots_0_ok 59 rfl) hl (by decide) rfl (fun ls hl => ?_)
                  refine lv_iinc (v := (v40_l5 + (1 : Int32))) (lv' := [(5, .int (v40_l5 + (1 : Int32))), (4, .int v108_t0), (3, .int v23_l3), (2, .int v23_l2), (0, .ref a0), (1, .int k1)]) hx hb (zat zrX12_freeSpots_0_ok 60 rfl) hl (k := 1) rfl rfl (by decide) rfl (fun ls hl => ?_)
                  refine lv_goto (tgt := 40) hx hb (zat zrX12_freeSpots_0_ok 61 rfl) (by decide) ?_
                  exact ih40 (v40_l5 + (1 : Int32)) v108_t0 H _ ls h zb_v108_t0 hP hD hS (lv_sub hl [0, 1, 2, 3, 4, 5] rfl)
                have J107 : ∀ (H : Heap) (locs : List Loc) (ls : Array Slot), f_X12_freeSpots_J107 (f_X12_freeSpots_L40 k1 m_v q_q (f_X12_freeSpots_L23 k1 m_t m_v q_q n23) v23_l2 v23_l3 n40) v40_l5 = some out → va_P (dC, dI) vwCl ((a3, .inl (cB34, 26, .inl m_v)) :: (a0, .inr (9, [.int 0, .int m_t.2.1, .int m_t.2.2, .ref a2, g8, g9, g10, g11, g12, g13, g14, g15, g16, g17, g18, .ref a3, g19, g20, g21, g22, g23, g24, g25, g26, g27, g28, g29, g30, g31, g32])) :: bX11 a2 uq kq q_q []) H → va_D A ((a3, .inl (cB34, 26, .inl m_v)) :: (a0, .inr (9, [.int 0, .int m_t.2.1, .int m_t.2.2, .ref a2, g8, g9, g10, g11, g12, g13, g14, g15, g16, g17, g18, .ref a3, g19, g20, g21, g22, g23, g24, g25, g26, g27, g28, g29, g30, g31, g32])) :: bX11 a2 uq kq q_q []) → va_S A s.heap H locs → lv_has ls 6 [(5, .int v40_l5), (3, .int v23_l3), (2, .int v23_l2), (0, .ref a0), (1, .int k1)] → W p l e (headSpec vfX12_freeSpots { frames := 2, cells := 0, slots := 0, locals := 45 }).room s m ([.ref a0, .int k1]).toArray below meth c H locs 0 0 QQ (F0 m 107 ls []) := by
                  intro  H locs ls h  hP hD hS hl
                  rw [f_X12_freeSpots_J107] at h
                  refine lv_iconst (v := 0) hx hb (zat zrX12_freeSpots_0_ok 58 rfl) (by decide) ?_
                  exact J108 (0 : Int32) H _ ls h (by decide) hP hD hS (lv_sub hl [0, 1, 2, 3, 4] rfl)
                refine lv_if_eq (tgt := 107) hx hb (zat zrX12_freeSpots_0_ok 30 rfl) (by decide) (fun c54 => ?_) (fun c54 => ?_)
                · have h := (if_pos c54).symm.trans h
                  exact J107  H _ ls h  hP hD hS (lv_sub hl [0, 2, 3, 4, 5] rfl)
                · have h := (if_neg c54).symm.trans h
                  refine lv_iload hx hb (zat zrX12_freeSpots_0_ok 31 rfl) (lv_at hl 0 rfl) ?_
                  refine lv_iload_n hx hb (zat zrX12_freeSpots_0_ok 32 rfl) rfl (lv_at hl 5 rfl) ?_
                  have J103 : ∀ (H : Heap) (locs : List Loc) (ls : Array Slot), f_X12_freeSpots_J103 (f_X12_freeSpots_L40 k1 m_v q_q (f_X12_freeSpots_L23 k1 m_t m_v q_q n23) v23_l2 v23_l3 n40) v40_l5 = some out → va_P (dC, dI) vwCl ((a3, .inl (cB34, 26, .inl m_v)) :: (a0, .inr (9, [.int 0, .int m_t.2.1, .int m_t.2.2, .ref a2, g8, g9, g10, g11, g12, g13, g14, g15, g16, g17, g18, .ref a3, g19, g20, g21, g22, g23, g24, g25, g26, g27, g28, g29, g30, g31, g32])) :: bX11 a2 uq kq q_q []) H → va_D A ((a3, .inl (cB34, 26, .inl m_v)) :: (a0, .inr (9, [.int 0, .int m_t.2.1, .int m_t.2.2, .ref a2, g8, g9, g10, g11, g12, g13, g14, g15, g16, g17, g18, .ref a3, g19, g20, g21, g22, g23, g24, g25, g26, g27, g28, g29, g30, g31, g32])) :: bX11 a2 uq kq q_q []) → va_S A s.heap H locs → lv_has ls 6 [(5, .int v40_l5), (3, .int v23_l3), (2, .int v23_l2), (0, .ref a0), (1, .int k1)] → W p l e (headSpec vfX12_freeSpots { frames := 2, cells := 0, slots := 0, locals := 45 }).room s m ([.ref a0, .int k1]).toArray below meth c H locs 0 0 QQ (F0 m 103 ls []) := by
                    intro  H locs ls h  hP hD hS hl
                    rw [f_X12_freeSpots_J103] at h
                    refine lv_iconst (v := 1) hx hb (zat zrX12_freeSpots_0_ok 56 rfl) (by decide) ?_
                    refine lv_goto (tgt := 108) hx hb (zat zrX12_freeSpots_0_ok 57 rfl) (by decide) ?_
                    exact J108 (1 : Int32) H _ ls h (by decide) hP hD hS (lv_sub hl [0, 1, 2, 3, 4] rfl)
                  refine lv_icmp_eq (tgt := 103) hx hb (zat zrX12_freeSpots_0_ok 33 rfl) (by decide) (fun c60 => ?_) (fun c60 => ?_)
                  · have h := (if_pos c60).symm.trans h
                    exact J103  H _ ls h  hP hD hS (lv_sub hl [0, 2, 3, 4, 5] rfl)
                  · have h := (if_neg c60).symm.trans h
                    refine lv_aload_n hx hb (zat zrX12_freeSpots_0_ok 34 rfl) rfl (lv_at hl 4 rfl) ?_
                    refine va_get (D := (dC, dI)) (ci := 9) (v := .ref a3) (C := RX12) (T := TX12) (N := 30) hx hb hts ifX12_freeSpots_X12 hown hK hP 1 rfl rfl 15 (by decide) (hts (.fieldLink RX12 17 "HookPierModel" "v" "[I") (List.mem_of_getElem? (i := 10) rfl)) (fun _ h9 => h9) rfl (zat zrX12_freeSpots_0_ok 35 rfl) ?_
                    refine lv_bipush (v := 18) hx hb (zat zrX12_freeSpots_0_ok 36 rfl) (by decide) ?_
                    refine lv_iload hx hb (zat zrX12_freeSpots_0_ok 37 rfl) (lv_at hl 0 rfl) ?_
                    refine lv_iadd hx hb (zat zrX12_freeSpots_0_ok 38 rfl) ?_
                    obtain ⟨hg72, h⟩ := gA_of h
                    refine va_iald hx hb hK hP 0 14 rfl rfl hg72 (zat zrX12_freeSpots_0_ok 39 rfl) ?_
                    refine lv_bipush (v := (-2)) hx hb (zat zrX12_freeSpots_0_ok 40 rfl) (by decide) ?_
                    refine lv_icmp_eq (tgt := 103) hx hb (zat zrX12_freeSpots_0_ok 41 rfl) (by decide) (fun c75 => ?_) (fun c75 => ?_)
                    · have h := (if_pos c75).symm.trans h
                      exact J103  H _ ls h  hP hD hS (lv_sub hl [0, 2, 3, 4, 5] rfl)
                    · have h := (if_neg c75).symm.trans h
                      refine lv_aload_n hx hb (zat zrX12_freeSpots_0_ok 42 rfl) rfl (lv_at hl 4 rfl) ?_
                      refine lv_iload_n hx hb (zat zrX12_freeSpots_0_ok 43 rfl) rfl (lv_at hl 5 rfl) ?_
                      refine lv_iload_n hx hb (zat zrX12_freeSpots_0_ok 44 rfl) rfl (lv_at hl 2 rfl) ?_
                      refine lv_iload hx hb (zat zrX12_freeSpots_0_ok 45 rfl) (lv_at hl 0 rfl) ?_
                      refine lv_aload_n hx hb (zat zrX12_freeSpots_0_ok 46 rfl) rfl (lv_at hl 4 rfl) ?_
                      refine lv_aload_n hx hb (zat zrX12_freeSpots_0_ok 47 rfl) rfl (lv_at hl 4 rfl) ?_
                      refine va_get (D := (dC, dI)) (ci := 9) (v := .ref a3) (C := RX12) (T := TX12) (N := 30) hx hb hts ifX12_freeSpots_X12 hown hK hP 1 rfl rfl 15 (by decide) (hts (.fieldLink RX12 17 "HookPierModel" "v" "[I") (List.mem_of_getElem? (i := 10) rfl)) (fun _ h9 => h9) rfl (zat zrX12_freeSpots_0_ok 48 rfl) ?_
                      refine lv_bipush (v := 18) hx hb (zat zrX12_freeSpots_0_ok 49 rfl) (by decide) ?_
                      refine lv_iload hx hb (zat zrX12_freeSpots_0_ok 50 rfl) (lv_at hl 0 rfl) ?_
                      refine lv_iadd hx hb (zat zrX12_freeSpots_0_ok 51 rfl) ?_
                      obtain ⟨hg93, h⟩ := gA_of h
                      refine va_iald hx hb hK hP 0 14 rfl rfl hg93 (zat zrX12_freeSpots_0_ok 52 rfl) ?_
                      obtain ⟨o94, eo94, h⟩ := bd_of h
                      refine ck_i (wc := ((a0, .inr (9, [.int 0, .int m_t.2.1, .int m_t.2.2, .ref a2, g8, g9, g10, g11, g12, g13, g14, g15, g16, g17, g18, .ref a3, g19, g20, g21, g22, g23, g24, g25, g26, g27, g28, g29, g30, g31, g32])) :: bX11 a2 uq kq q_q [])) (wr := ([(a3, .inl (cB34, 26, .inl m_v))])) hP hD hK hS hA [1, 2, 3, 4, 5, 6, 7, 8, 9, 10, 11, 12, 13, 14, 15, 16] [0] rfl rfl (by decide) (by decide) (by decide) (fun hPc hDc => (va_runV (As := [.int (m_v (((18 : Int32) + v40_l5)).toNatClampNeg)]) (rest := [.int v40_l5, .int v23_l3, .int k1, .ref a0]) ⟨hx, hb, hml, hown, hts⟩ (kfX12_spotOf l dC dI a0 (m_v (((18 : Int32) + v40_l5)).toNatClampNeg) a2 uq kq (.int 0) (.int m_t.2.1) (.int m_t.2.2) (g8) (g9) (g10) (g11) (g12) (g13) (g14) (g15) (g16) (g17) (g18) (.ref a3) (g19) (g20) (g21) (g22) (g23) (g24) (g25) (g26) (g27) (g28) (g29) (g30) (g31) (g32) q_q H.size o94 eo94) (cwV 1 hts gfX12_freeSpots_2 rfl rfl rfl (by decide +kernel) ⟨(Nat.le_of_ble_eq_true rfl), (Nat.le_of_ble_eq_true rfl)⟩) (PV hPc (hK.sub (tys' := (tX11 kq ([]))) [0, 1, 2, 3, 4, 5, 6, 7, 8, 9, 10, 11, 12, 13] rfl) hDc hN 0 rfl rfl) rfl rfl hl.1 rfl (lv_room (Nat.le_of_ble_eq_true rfl)) (zat zrX12_freeSpots_0_ok 53 rfl) ⟨(Nat.le_of_ble_eq_true rfl), (Nat.le_of_ble_eq_true rfl)⟩)) (fun r94 _ H locs hw hP hD _ hS => ?_)
                      obtain rfl := hw.symm
                      obtain ⟨hP, hD⟩ := pd_mk ((a3, .inl (cB34, 26, .inl m_v)) :: (a0, .inr (9, [.int 0, .int m_t.2.1, .int m_t.2.2, .ref a2, g8, g9, g10, g11, g12, g13, g14, g15, g16, g17, g18, .ref a3, g19, g20, g21, g22, g23, g24, g25, g26, g27, g28, g29, g30, g31, g32])) :: bX11 a2 uq kq q_q []) hP hD
                      obtain ⟨o97, eo97, h⟩ := bd_of h
                      refine ck_i (wc := ((a0, .inr (9, [.int 0, .int m_t.2.1, .int m_t.2.2, .ref a2, g8, g9, g10, g11, g12, g13, g14, g15, g16, g17, g18, .ref a3, g19, g20, g21, g22, g23, g24, g25, g26, g27, g28, g29, g30, g31, g32])) :: bX11 a2 uq kq q_q [])) (wr := ([(a3, .inl (cB34, 26, .inl m_v))])) hP hD hK hS hA [1, 2, 3, 4, 5, 6, 7, 8, 9, 10, 11, 12, 13, 14, 15, 16] [0] rfl rfl (by decide) (by decide) (by decide) (fun hPc hDc => (va_runV (As := [.int k1, .int v23_l3, .int v40_l5, .int o94]) (rest := []) ⟨hx, hb, hml, hown, hts⟩ (kfX12_areTangled l dC dI a0 k1 v23_l3 v40_l5 o94 a2 uq kq (.int 0) (.int m_t.2.1) (.int m_t.2.2) (g8) (g9) (g10) (g11) (g12) (g13) (g14) (g15) (g16) (g17) (g18) (.ref a3) (g19) (g20) (g21) (g22) (g23) (g24) (g25) (g26) (g27) (g28) (g29) (g30) (g31) (g32) q_q H.size o97 eo97) (cwV 4 hts gfX12_freeSpots_3 rfl rfl rfl (by decide +kernel) ⟨(Nat.le_of_ble_eq_true rfl), (Nat.le_of_ble_eq_true rfl)⟩) (PV hPc (hK.sub (tys' := (tX11 kq ([]))) [0, 1, 2, 3, 4, 5, 6, 7, 8, 9, 10, 11, 12, 13] rfl) hDc hN 0 rfl rfl) rfl rfl hl.1 rfl (lv_room (Nat.le_of_ble_eq_true rfl)) (zat zrX12_freeSpots_0_ok 54 rfl) ⟨(Nat.le_of_ble_eq_true rfl), (Nat.le_of_ble_eq_true rfl)⟩)) (fun r97 _ H locs hw hP hD _ hS => ?_)
                      obtain ⟨hw, br97⟩ := hw
                      obtain rfl := hw.symm
                      obtain ⟨hP, hD⟩ := pd_mk ((a3, .inl (cB34, 26, .inl m_v)) :: (a0, .inr (9, [.int 0, .int m_t.2.1, .int m_t.2.2, .ref a2, g8, g9, g10, g11, g12, g13, g14, g15, g16, g17, g18, .ref a3, g19, g20, g21, g22, g23, g24, g25, g26, g27, g28, g29, g30, g31, g32])) :: bX11 a2 uq kq q_q []) hP hD
                      refine lv_if_ne (tgt := 107) hx hb (zat zrX12_freeSpots_0_ok 55 rfl) (by decide) (fun c100 => ?_) (fun c100 => ?_)
                      · have h := (if_neg c100).symm.trans h
                        exact J107  H _ ls h  hP hD hS (lv_sub hl [0, 2, 3, 4, 5] rfl)
                      · have h := (if_pos c100).symm.trans h
                        exact J103  H _ ls h  hP hD hS (lv_sub hl [0, 2, 3, 4, 5] rfl)
          exact L40 FU (0 : Int32) (1 : Int32) H _ ls h (by decide) hP hD hS (lv_sub hl [0, 1, 2, 3, 4, 5] rfl)
    exact L23 FU (0 : Int32) (0 : Int32) H _ ls h  hP hD hS (lv_sub hl [0, 1, 2, 3] rfl)
  · have h := (if_pos c10).symm.trans h
    refine lv_aload_n hx hb (zat zrX12_freeSpots_0_ok 7 rfl) rfl (lv_at hl 0 rfl) ?_
    refine lv_iconst (v := 1) hx hb (zat zrX12_freeSpots_0_ok 8 rfl) (by decide) ?_
    obtain ⟨o15, eo15⟩ : ∃ o, o = f_X12_refused (1 : Int32) ((0 : Int32), m_t.2) := ⟨_, rfl⟩
    have h := nm_of h o15 eo15
    refine ck_i (wc := ([(a0, .inr (9, [.int 0, .int m_t.2.1, .int m_t.2.2, .ref a2, g8, g9, g10, g11, g12, g13, g14, g15, g16, g17, g18, .ref a3, g19, g20, g21, g22, g23, g24, g25, g26, g27, g28, g29, g30, g31, g32]))])) (wr := ((a3, .inl (cB34, 26, .inl m_v)) :: bX11 a2 uq kq q_q [])) hP hD hK hS hA [1] [0, 2, 3, 4, 5, 6, 7, 8, 9, 10, 11, 12, 13, 14, 15, 16] rfl rfl (by decide) (by decide) (by decide) (fun hPc hDc => (va_runV (As := [.int 1]) (rest := []) ⟨hx, hb, hml, hown, hts⟩ (kfX12_refused l dC dI a0 (1 : Int32) ((0 : Int32), m_t.2) (.ref a2) (g8) (g9) (g10) (g11) (g12) (g13) (g14) (g15) (g16) (g17) (g18) (.ref a3) (g19) (g20) (g21) (g22) (g23) (g24) (g25) (g26) (g27) (g28) (g29) (g30) (g31) (g32) H.size o15 eo15.symm) (cwV 1 hts gfX12_freeSpots_4 rfl rfl rfl (by decide +kernel) ⟨(Nat.le_of_ble_eq_true rfl), (Nat.le_of_ble_eq_true rfl)⟩) (PV hPc (hK.sub (tys' := ([])) [] rfl) hDc hN 0 rfl rfl) rfl rfl hl.1 rfl (lv_room (Nat.le_of_ble_eq_true rfl)) (zat zrX12_freeSpots_0_ok 9 rfl) ⟨(Nat.le_of_ble_eq_true rfl), (Nat.le_of_ble_eq_true rfl)⟩)) (fun r15 _ H locs hw hP hD _ hS => ?_)
    obtain rfl := hw
    obtain ⟨hP, hD⟩ := pd_mk ((a3, .inl (cB34, 26, .inl m_v)) :: bX11 a2 uq kq q_q ([(a0, .inr (9, [.int o15.1, .int o15.2.1, .int o15.2.2, .ref a2, g8, g9, g10, g11, g12, g13, g14, g15, g16, g17, g18, .ref a3, g19, g20, g21, g22, g23, g24, g25, g26, g27, g28, g29, g30, g31, g32]))])) hP hD
    obtain rfl := Option.some.inj h
    obtain ⟨hP9, hD9⟩ := pd_sub ((a0, .inr (9, [.int o15.1, .int o15.2.1, .int o15.2.2, .ref a2, g8, g9, g10, g11, g12, g13, g14, g15, g16, g17, g18, .ref a3, g19, g20, g21, g22, g23, g24, g25, g26, g27, g28, g29, g30, g31, g32])) :: bX11 a2 uq kq q_q ([(a3, .inl (cB34, 26, .inl m_v))])) [16, 1, 2, 3, 4, 5, 6, 7, 8, 9, 10, 11, 12, 13, 14, 15, 0] hP hD (by decide) rfl
    have hK9 := hK.sub (tys' := []) [] rfl
    rw [hQQ]
    exact W.iret (v := (-1 : Int32)) hx hb hr (fun t ht hW => ⟨⟨(-1 : Int32), (), rfl, rfl, by rw [ht]; exact hP9, va_K.moved hW.alike hK9, hD9⟩, hS.F ht⟩) hS.2.2 (zat zrX12_freeSpots_0_ok 10 rfl)
noncomputable def zrX12_tangles_0 : List ZR := zc 0 true (.aload_n 0) 1 (zc 1 true (.iconst 0) 1 (zc 2 true (.putfield 36) 3 (zc 5 true (.aload_n 0) 1 (zc 6 true (.iload_n 1) 1 (zc 7 true (.invokevirtual 334) 3 (zc 10 true (.ifCond .eq 51) 3 (zc 13 true (.aload_n 0) 1 (zc 14 true (.iload_n 3) 1 (zc 15 true (.invokevirtual 334) 3 (zc 18 true (.ifCond .eq 43) 3 (zc 21 true (.iload_n 1) 1 (zc 22 true (.iload_n 3) 1 (zc 23 true (.if_icmp .eq 38) 3 (zc 26 true (.iload_n 2) 1 (zc 27 true (.iconst 0) 1 (zc 28 true (.aload_n 0) 1 (zc 29 true (.getfield 299) 3 (zc 32 true (.getfield 143) 3 (zc 35 true (.iconst 1) 1 (zc 36 true (.isub) 1 (zc 37 true (.invokestatic 115) 3 (zc 40 true (.ifCond .eq 21) 3 (zc 43 true (.iload 4) 2 (zc 45 true (.iconst 0) 1 (zc 46 true (.aload_n 0) 1 (zc 47 true (.getfield 299) 3 (zc 50 true (.getfield 143) 3 (zc 53 true (.iconst 1) 1 (zc 54 true (.isub) 1 (zc 55 true (.invokestatic 115) 3 (zc 58 true (.ifCond .ne 9) 3 (zc 61 true (.aload_n 0) 1 (zc 62 true (.iconst 1) 1 (zc 63 true (.invokevirtual 42) 3 (zc 66 true (.ireturn) 1 (zc 67 true (.aload_n 0) 1 (zc 68 true (.aload_n 0) 1 (zc 69 true (.iload_n 1) 1 (zc 70 true (.iload_n 2) 1 (zc 71 true (.iload_n 3) 1 (zc 72 true (.iload 4) 2 (zc 74 true (.invokevirtual 330) 3 (zc 77 true (.ifCond .eq 7) 3 (zc 80 true (.iconst 1) 1 (zc 81 true (.goto 4) 3 (zc 84 true (.iconst 0) 1 (zc 85 true (.invokevirtual 46) 3 (zc 88 true (.ireturn) 1 ([])))))))))))))))))))))))))))))))))))))))))))))))))
theorem zrX12_tangles_0_ok : zck 0 ((zby cX12_tangles).drop 0) zrX12_tangles_0 = true := by decide +kernel
def vfX12_tangles : List Cond := List.cons (.code yX12_tangles cX12_tangles 5 (some .int)) (apW [.fieldLink RX12 36 "HookPierModel" "thrown" "I", .methodLink RX12 334 yX12_isAsker, .instanceMethod yX12_isAsker, .selects RX12 yX12_isAsker yX12_isAsker, .initialized RX12, .methodLink RX12 42 yX12_refused, .instanceMethod yX12_refused, .selects RX12 yX12_refused yX12_refused, .fieldLink RX12 299 "HookPierModel" "pier" "LHookPierModel$Pier;", .methodLink RX12 115 yX12_in, .static yX12_in, .methodLink RX12 330 yX12_areTangled, .instanceMethod yX12_areTangled, .selects RX12 yX12_areTangled yX12_areTangled, .methodLink RX12 46 yX12_good, .instanceMethod yX12_good, .selects RX12 yX12_good yX12_good] (apW wsX120 (apW wsX110 (apW vfX12_isAsker (apW vfX12_refused (apW vfX12_in (apW vfX12_areTangled (vfX12_good))))))))
theorem ifX12_tangles_X12 : ∀ w ∈ wsX120, w ∈ vfX12_tangles := fun _ h => (List.mem_cons_of_mem _ (List.mem_append_right _ (List.mem_append_left _ h)))
theorem ifX12_tangles_X11 : ∀ w ∈ wsX110, w ∈ vfX12_tangles := fun _ h => (List.mem_cons_of_mem _ (List.mem_append_right _ (List.mem_append_right _ (List.mem_append_left _ h))))
theorem qfX12_tangles : Good vfX12_tangles := gd_cons (by decide +kernel) (gd_app (gd_dec (by decide +kernel) : Good [.fieldLink RX12 36 "HookPierModel" "thrown" "I", .methodLink RX12 334 yX12_isAsker, .instanceMethod yX12_isAsker, .selects RX12 yX12_isAsker yX12_isAsker, .initialized RX12, .methodLink RX12 42 yX12_refused, .instanceMethod yX12_refused, .selects RX12 yX12_refused yX12_refused, .fieldLink RX12 299 "HookPierModel" "pier" "LHookPierModel$Pier;", .methodLink RX12 115 yX12_in, .static yX12_in, .methodLink RX12 330 yX12_areTangled, .instanceMethod yX12_areTangled, .selects RX12 yX12_areTangled yX12_areTangled, .methodLink RX12 46 yX12_good, .instanceMethod yX12_good, .selects RX12 yX12_good yX12_good]) (gd_app qsX12 (gd_app qsX11 (gd_app qfX12_isAsker (gd_app qfX12_refused (gd_app qfX12_in (gd_app qfX12_areTangled qfX12_good)))))))
theorem gfX12_tangles_0 : GoodIn vfX12_tangles (wsV RX12 334 RX12 yX12_isAsker vfX12_isAsker) := goodIn_app (goodIn_r [.methodLink RX12 334 yX12_isAsker, .instanceMethod yX12_isAsker, .selects RX12 yX12_isAsker yX12_isAsker, .initialized RX12] [2, 3, 4, 5] rfl (by decide +kernel)) (goodIn_m (fun _ h => (List.mem_cons_of_mem _ (List.mem_append_right _ (List.mem_append_right _ (List.mem_append_right _ (List.mem_append_left _ h)))))) qfX12_isAsker)
theorem gfX12_tangles_1 : GoodIn vfX12_tangles (wsV RX12 42 RX12 yX12_refused vfX12_refused) := goodIn_app (goodIn_r [.methodLink RX12 42 yX12_refused, .instanceMethod yX12_refused, .selects RX12 yX12_refused yX12_refused, .initialized RX12] [6, 7, 8, 5] rfl (by decide +kernel)) (goodIn_m (fun _ h => (List.mem_cons_of_mem _ (List.mem_append_right _ (List.mem_append_right _ (List.mem_append_right _ (List.mem_append_right _ (List.mem_append_left _ h))))))) qfX12_refused)
theorem gfX12_tangles_2 : GoodIn vfX12_tangles (va_wsS RX12 115 yX12_in vfX12_in) := goodIn_app (goodIn_r [.methodLink RX12 115 yX12_in, .static yX12_in, .initialized RX12] [10, 11, 5] rfl (by decide +kernel)) (goodIn_m (fun _ h => (List.mem_cons_of_mem _ (List.mem_append_right _ (List.mem_append_right _ (List.mem_append_right _ (List.mem_append_right _ (List.mem_append_right _ (List.mem_append_left _ h)))))))) qfX12_in)
theorem gfX12_tangles_3 : GoodIn vfX12_tangles (wsV RX12 330 RX12 yX12_areTangled vfX12_areTangled) := goodIn_app (goodIn_r [.methodLink RX12 330 yX12_areTangled, .instanceMethod yX12_areTangled, .selects RX12 yX12_areTangled yX12_areTangled, .initialized RX12] [12, 13, 14, 5] rfl (by decide +kernel)) (goodIn_m (fun _ h => (List.mem_cons_of_mem _ (List.mem_append_right _ (List.mem_append_right _ (List.mem_append_right _ (List.mem_append_right _ (List.mem_append_right _ (List.mem_append_right _ (List.mem_append_left _ h))))))))) qfX12_areTangled)
theorem gfX12_tangles_4 : GoodIn vfX12_tangles (wsV RX12 46 RX12 yX12_good vfX12_good) := goodIn_app (goodIn_r [.methodLink RX12 46 yX12_good, .instanceMethod yX12_good, .selects RX12 yX12_good yX12_good, .initialized RX12] [15, 16, 17, 5] rfl (by decide +kernel)) (goodIn_m (fun _ h => (List.mem_cons_of_mem _ (List.mem_append_right _ (List.mem_append_right _ (List.mem_append_right _ (List.mem_append_right _ (List.mem_append_right _ (List.mem_append_right _ (List.mem_append_right _ h))))))))) qfX12_good)
set_option maxHeartbeats 2000000 in
set_option maxRecDepth 100000 in
theorem kfX12_tangles (l : Launch) (dC : Nat → ClassId) (dI : Nat → Nat → Nat) (a0 : Nat) (k1 : Int32) (k2 : Int32) (k3 : Int32) (k4 : Int32) (a5 : Nat) (uq : Nat → Nat) (kq : Nat → ClassId) (m_t : TX12_t) (g9 : Value) (g10 : Value) (g11 : Value) (g12 : Value) (g13 : Value) (g14 : Value) (g15 : Value) (g16 : Value) (g17 : Value) (g18 : Value) (g19 : Value) (g20 : Value) (g21 : Value) (g22 : Value) (g23 : Value) (g24 : Value) (g25 : Value) (g26 : Value) (g27 : Value) (g28 : Value) (g29 : Value) (g30 : Value) (g31 : Value) (g32 : Value) (g33 : Value) (g34 : Value) (q_q : TX11_q) (sz : Nat) (out : (Int32 × TX12_t)) (h : f_X12_tangles k1 k2 k3 k4 m_t q_q = some out) : KCi l yX12_tangles vfX12_tangles ({ frames := 2, cells := 0, slots := 0, locals := 45 }) (dC, dI) [.ref a0, .int k1, .int k2, .int k3, .int k4] sz ((a0, .inr (9, [.int m_t.1, .int m_t.2.1, .int m_t.2.2, .ref a5, g9, g10, g11, g12, g13, g14, g15, g16, g17, g18, g19, g20, g21, g22, g23, g24, g25, g26, g27, g28, g29, g30, g31, g32, g33, g34])) :: bX11 a5 uq kq q_q []) (tX11 kq ([])) (fun (r : Int32) _ => r = out.1) ((a0, .inr (9, [.int out.2.1, .int out.2.2.1, .int out.2.2.2, .ref a5, g9, g10, g11, g12, g13, g14, g15, g16, g17, g18, g19, g20, g21, g22, g23, g24, g25, g26, g27, g28, g29, g30, g31, g32, g33, g34])) :: bX11 a5 uq kq q_q []) 0 0 := by
  refine Met.ofW (cc := cX12_tangles) (maxL := 5) (ret := (some .int)) (by decide) rfl ?_
  intro p e s m args below meth c s₁ B0 hml hv
  obtain ⟨rfl, hsz, hP, hK, hD0, hN⟩ := hv
  have hx := B0.exec
  have hb := B0.bytes
  have hr := B0.returns
  have hts := atoms_spec (ws := vfX12_tangles) B0.pre
  have hown : s.vm.findClass RX12 = some m.cls := findClass_of_methodNamed B0.named
  have hlocks := B0.notSynchronized
  subst hsz
  have hD := hD0.self (sz := s.heap.size)
  generalize hAe : va_A ((a0, .inr (9, [.int m_t.1, .int m_t.2.1, .int m_t.2.2, .ref a5, g9, g10, g11, g12, g13, g14, g15, g16, g17, g18, g19, g20, g21, g22, g23, g24, g25, g26, g27, g28, g29, g30, g31, g32, g33, g34])) :: bX11 a5 uq kq q_q []) s.heap.size = A at hD ⊢
  have hA : ∀ q : Nat, s.heap.size ≤ q → A q := fun q h => by rw [← hAe]; exact Or.inr h
  have hS : va_S A s.heap s.heap [] := va_S.rf
  have hP : va_P (dC, dI) vwCl ((a0, .inr (9, [.int m_t.1, .int m_t.2.1, .int m_t.2.2, .ref a5, g9, g10, g11, g12, g13, g14, g15, g16, g17, g18, g19, g20, g21, g22, g23, g24, g25, g26, g27, g28, g29, g30, g31, g32, g33, g34])) :: bX11 a5 uq kq q_q []) s.heap := hP
  have hl := lv_entry ([.ref a0, .int k1, .int k2, .int k3, .int k4]) (n := 5) (Nat.le_of_ble_eq_true rfl)
  rw [lg_entry_eq]
  generalize (lg_sl ([.ref a0, .int k1, .int k2, .int k3, .int k4]) ++ List.replicate (5 - (lg_sl ([.ref a0, .int k1, .int k2, .int k3, .int k4])).length) Slot.unset).toArray = ls at hl ⊢
  have hl : lv_has ls 5 [(0, .ref a0), (1, .int k1), (2, .int k2), (3, .int k3), (4, .int k4)] := hl
  refine W_q (fun QQ hQQ => ?_)
  rw [f_X12_tangles] at h
  refine lv_aload_n hx hb (zat zrX12_tangles_0_ok 0 rfl) rfl (lv_at hl 0 rfl) ?_
  refine lv_iconst (v := 0) hx hb (zat zrX12_tangles_0_ok 1 rfl) (by decide) ?_
  refine va_put (D := (dC, dI)) (ci := 9) (v := .int 0) (ty := .int) (C := RX12) (T := TX12) (N := 30) hx hb hts ifX12_tangles_X12 tyX12 tyX12_ok nmX12 hown hK hP hD hS 0 rfl rfl 0 (by decide) (hts (.fieldLink RX12 36 "HookPierModel" "thrown" "I") (List.mem_of_getElem? (i := 1) rfl)) (fun _ h9 => h9) rfl (by decide +kernel) rfl rfl (Nat.le_of_ble_eq_true rfl) (zat zrX12_tangles_0_ok 2 rfl) (fun H locs hP hD hS => ?_)
  obtain ⟨hP, hD⟩ := pd_mk ((a0, .inr (9, [.int 0, .int m_t.2.1, .int m_t.2.2, .ref a5, g9, g10, g11, g12, g13, g14, g15, g16, g17, g18, g19, g20, g21, g22, g23, g24, g25, g26, g27, g28, g29, g30, g31, g32, g33, g34])) :: bX11 a5 uq kq q_q []) hP hD
  refine lv_aload_n hx hb (zat zrX12_tangles_0_ok 3 rfl) rfl (lv_at hl 0 rfl) ?_
  refine lv_iload_n hx hb (zat zrX12_tangles_0_ok 4 rfl) rfl (lv_at hl 1 rfl) ?_
  obtain ⟨o7, eo7⟩ : ∃ o, o = f_X12_isAsker k1 q_q := ⟨_, rfl⟩
  have h := nm_of h o7 eo7
  refine ck_i (wc := ((a0, .inr (9, [.int 0, .int m_t.2.1, .int m_t.2.2, .ref a5, g9, g10, g11, g12, g13, g14, g15, g16, g17, g18, g19, g20, g21, g22, g23, g24, g25, g26, g27, g28, g29, g30, g31, g32, g33, g34])) :: bX11 a5 uq kq q_q [])) (wr := []) hP hD hK hS hA [0, 1, 2, 3, 4, 5, 6, 7, 8, 9, 10, 11, 12, 13, 14, 15] [] rfl rfl (by decide) (by decide) (by decide) (fun hPc hDc => (va_runV (As := [.int k1]) (rest := []) ⟨hx, hb, hml, hown, hts⟩ (kfX12_isAsker l dC dI a0 k1 a5 uq kq (.int 0) (.int m_t.2.1) (.int m_t.2.2) (g9) (g10) (g11) (g12) (g13) (g14) (g15) (g16) (g17) (g18) (g19) (g20) (g21) (g22) (g23) (g24) (g25) (g26) (g27) (g28) (g29) (g30) (g31) (g32) (g33) (g34) q_q H.size o7 eo7.symm) (cwV 1 hts gfX12_tangles_0 rfl rfl rfl (by decide +kernel) ⟨(Nat.le_of_ble_eq_true rfl), (Nat.le_of_ble_eq_true rfl)⟩) (PV hPc (hK.sub (tys' := (tX11 kq ([]))) [0, 1, 2, 3, 4, 5, 6, 7, 8, 9, 10, 11, 12, 13] rfl) hDc hN 0 rfl rfl) rfl rfl hl.1 rfl (lv_room (Nat.le_of_ble_eq_true rfl)) (zat zrX12_tangles_0_ok 5 rfl) ⟨(Nat.le_of_ble_eq_true rfl), (Nat.le_of_ble_eq_true rfl)⟩)) (fun r7 _ H locs hw hP hD _ hS => ?_)
  obtain ⟨hw, br7⟩ := hw
  obtain rfl := hw.symm
  obtain ⟨hP, hD⟩ := pd_mk ((a0, .inr (9, [.int 0, .int m_t.2.1, .int m_t.2.2, .ref a5, g9, g10, g11, g12, g13, g14, g15, g16, g17, g18, g19, g20, g21, g22, g23, g24, g25, g26, g27, g28, g29, g30, g31, g32, g33, g34])) :: bX11 a5 uq kq q_q []) hP hD
  have J61 : ∀ (H : Heap) (locs : List Loc) (ls : Array Slot), f_X12_tangles_J61 m_t = some out → va_P (dC, dI) vwCl ((a0, .inr (9, [.int 0, .int m_t.2.1, .int m_t.2.2, .ref a5, g9, g10, g11, g12, g13, g14, g15, g16, g17, g18, g19, g20, g21, g22, g23, g24, g25, g26, g27, g28, g29, g30, g31, g32, g33, g34])) :: bX11 a5 uq kq q_q []) H → va_D A ((a0, .inr (9, [.int 0, .int m_t.2.1, .int m_t.2.2, .ref a5, g9, g10, g11, g12, g13, g14, g15, g16, g17, g18, g19, g20, g21, g22, g23, g24, g25, g26, g27, g28, g29, g30, g31, g32, g33, g34])) :: bX11 a5 uq kq q_q []) → va_S A s.heap H locs → lv_has ls 5 [(0, .ref a0)] → W p l e (headSpec vfX12_tangles { frames := 2, cells := 0, slots := 0, locals := 45 }).room s m ([.ref a0, .int k1, .int k2, .int k3, .int k4]).toArray below meth c H locs 0 0 QQ (F0 m 61 ls []) := by
    intro  H locs ls h  hP hD hS hl
    rw [f_X12_tangles_J61] at h
    refine lv_aload_n hx hb (zat zrX12_tangles_0_ok 32 rfl) rfl (lv_at hl 0 rfl) ?_
    refine lv_iconst (v := 1) hx hb (zat zrX12_tangles_0_ok 33 rfl) (by decide) ?_
    obtain ⟨o63, eo63⟩ : ∃ o, o = f_X12_refused (1 : Int32) ((0 : Int32), m_t.2) := ⟨_, rfl⟩
    have h := nm_of h o63 eo63
    refine ck_i (wc := ([(a0, .inr (9, [.int 0, .int m_t.2.1, .int m_t.2.2, .ref a5, g9, g10, g11, g12, g13, g14, g15, g16, g17, g18, g19, g20, g21, g22, g23, g24, g25, g26, g27, g28, g29, g30, g31, g32, g33, g34]))])) (wr := (bX11 a5 uq kq q_q [])) hP hD hK hS hA [0] [1, 2, 3, 4, 5, 6, 7, 8, 9, 10, 11, 12, 13, 14, 15] rfl rfl (by decide) (by decide) (by decide) (fun hPc hDc => (va_runV (As := [.int 1]) (rest := []) ⟨hx, hb, hml, hown, hts⟩ (kfX12_refused l dC dI a0 (1 : Int32) ((0 : Int32), m_t.2) (.ref a5) (g9) (g10) (g11) (g12) (g13) (g14) (g15) (g16) (g17) (g18) (g19) (g20) (g21) (g22) (g23) (g24) (g25) (g26) (g27) (g28) (g29) (g30) (g31) (g32) (g33) (g34) H.size o63 eo63.symm) (cwV 1 hts gfX12_tangles_1 rfl rfl rfl (by decide +kernel) ⟨(Nat.le_of_ble_eq_true rfl), (Nat.le_of_ble_eq_true rfl)⟩) (PV hPc (hK.sub (tys' := ([])) [] rfl) hDc hN 0 rfl rfl) rfl rfl hl.1 rfl (lv_room (Nat.le_of_ble_eq_true rfl)) (zat zrX12_tangles_0_ok 34 rfl) ⟨(Nat.le_of_ble_eq_true rfl), (Nat.le_of_ble_eq_true rfl)⟩)) (fun r63 _ H locs hw hP hD _ hS => ?_)
    obtain rfl := hw
    obtain ⟨hP, hD⟩ := pd_mk (bX11 a5 uq kq q_q ([(a0, .inr (9, [.int o63.1, .int o63.2.1, .int o63.2.2, .ref a5, g9, g10, g11, g12, g13, g14, g15, g16, g17, g18, g19, g20, g21, g22, g23, g24, g25, g26, g27, g28, g29, g30, g31, g32, g33, g34]))])) hP hD
    obtain rfl := Option.some.inj h
    obtain ⟨hP9, hD9⟩ := pd_sub ((a0, .inr (9, [.int o63.1, .int o63.2.1, .int o63.2.2, .ref a5, g9, g10, g11, g12, g13, g14, g15, g16, g17, g18, g19, g20, g21, g22, g23, g24, g25, g26, g27, g28, g29, g30, g31, g32, g33, g34])) :: bX11 a5 uq kq q_q []) [15, 0, 1, 2, 3, 4, 5, 6, 7, 8, 9, 10, 11, 12, 13, 14] hP hD (by decide) rfl
    have hK9 := hK.sub (tys' := []) [] rfl
    rw [hQQ]
    exact W.iret (v := (-1 : Int32)) hx hb hr (fun t ht hW => ⟨⟨(-1 : Int32), (), rfl, rfl, by rw [ht]; exact hP9, va_K.moved hW.alike hK9, hD9⟩, hS.F ht⟩) hS.2.2 (zat zrX12_tangles_0_ok 35 rfl)
  refine lv_if_eq (tgt := 61) hx hb (zat zrX12_tangles_0_ok 6 rfl) (by decide) (fun c10 => ?_) (fun c10 => ?_)
  · have h := (if_pos c10).symm.trans h
    exact J61  H _ ls h  hP hD hS (lv_sub hl [0] rfl)
  · have h := (if_neg c10).symm.trans h
    refine lv_aload_n hx hb (zat zrX12_tangles_0_ok 7 rfl) rfl (lv_at hl 0 rfl) ?_
    refine lv_iload_n hx hb (zat zrX12_tangles_0_ok 8 rfl) rfl (lv_at hl 3 rfl) ?_
    obtain ⟨o15, eo15⟩ : ∃ o, o = f_X12_isAsker k3 q_q := ⟨_, rfl⟩
    have h := nm_of h o15 eo15
    refine ck_i (wc := ((a0, .inr (9, [.int 0, .int m_t.2.1, .int m_t.2.2, .ref a5, g9, g10, g11, g12, g13, g14, g15, g16, g17, g18, g19, g20, g21, g22, g23, g24, g25, g26, g27, g28, g29, g30, g31, g32, g33, g34])) :: bX11 a5 uq kq q_q [])) (wr := []) hP hD hK hS hA [0, 1, 2, 3, 4, 5, 6, 7, 8, 9, 10, 11, 12, 13, 14, 15] [] rfl rfl (by decide) (by decide) (by decide) (fun hPc hDc => (va_runV (As := [.int k3]) (rest := []) ⟨hx, hb, hml, hown, hts⟩ (kfX12_isAsker l dC dI a0 k3 a5 uq kq (.int 0) (.int m_t.2.1) (.int m_t.2.2) (g9) (g10) (g11) (g12) (g13) (g14) (g15) (g16) (g17) (g18) (g19) (g20) (g21) (g22) (g23) (g24) (g25) (g26) (g27) (g28) (g29) (g30) (g31) (g32) (g33) (g34) q_q H.size o15 eo15.symm) (cwV 1 hts gfX12_tangles_0 rfl rfl rfl (by decide +kernel) ⟨(Nat.le_of_ble_eq_true rfl), (Nat.le_of_ble_eq_true rfl)⟩) (PV hPc (hK.sub (tys' := (tX11 kq ([]))) [0, 1, 2, 3, 4, 5, 6, 7, 8, 9, 10, 11, 12, 13] rfl) hDc hN 0 rfl rfl) rfl rfl hl.1 rfl (lv_room (Nat.le_of_ble_eq_true rfl)) (zat zrX12_tangles_0_ok 9 rfl) ⟨(Nat.le_of_ble_eq_true rfl), (Nat.le_of_ble_eq_true rfl)⟩)) (fun r15 _ H locs hw hP hD _ hS => ?_)
    obtain ⟨hw, br15⟩ := hw
    obtain rfl := hw.symm
    obtain ⟨hP, hD⟩ := pd_mk ((a0, .inr (9, [.int 0, .int m_t.2.1, .int m_t.2.2, .ref a5, g9, g10, g11, g12, g13, g14, g15, g16, g17, g18, g19, g20, g21, g22, g23, g24, g25, g26, g27, g28, g29, g30, g31, g32, g33, g34])) :: bX11 a5 uq kq q_q []) hP hD
    refine lv_if_eq (tgt := 61) hx hb (zat zrX12_tangles_0_ok 10 rfl) (by decide) (fun c18 => ?_) (fun c18 => ?_)
    · have h := (if_pos c18).symm.trans h
      exact J61  H _ ls h  hP hD hS (lv_sub hl [0] rfl)
    · have h := (if_neg c18).symm.trans h
      refine lv_iload_n hx hb (zat zrX12_tangles_0_ok 11 rfl) rfl (lv_at hl 1 rfl) ?_
      refine lv_iload_n hx hb (zat zrX12_tangles_0_ok 12 rfl) rfl (lv_at hl 3 rfl) ?_
      refine lv_icmp_eq (tgt := 61) hx hb (zat zrX12_tangles_0_ok 13 rfl) (by decide) (fun c23 => ?_) (fun c23 => ?_)
      · have h := (if_pos c23).symm.trans h
        exact J61  H _ ls h  hP hD hS (lv_sub hl [0] rfl)
      · have h := (if_neg c23).symm.trans h
        refine lv_iload_n hx hb (zat zrX12_tangles_0_ok 14 rfl) rfl (lv_at hl 2 rfl) ?_
        refine lv_iconst (v := 0) hx hb (zat zrX12_tangles_0_ok 15 rfl) (by decide) ?_
        refine lv_aload_n hx hb (zat zrX12_tangles_0_ok 16 rfl) rfl (lv_at hl 0 rfl) ?_
        refine va_get (D := (dC, dI)) (ci := 9) (v := .ref a5) (C := RX12) (T := TX12) (N := 30) hx hb hts ifX12_tangles_X12 hown hK hP 0 rfl rfl 3 (by decide) (hts (.fieldLink RX12 299 "HookPierModel" "pier" "LHookPierModel$Pier;") (List.mem_of_getElem? (i := 9) rfl)) (fun _ h9 => h9) rfl (zat zrX12_tangles_0_ok 17 rfl) ?_
        refine va_getN (D := (dC, dI)) (ci := 8) (v := .int q_q.1) (C := RX11) (T := TX11) (N := 24) hx hb hts ifX12_tangles_X11 hown hK hP 1 rfl rfl 0 (by decide) (va_Nw.use rfl (hN.1 (.fieldLinkNest RX12 143 "HookPierModel$Pier" "spots" "I" "HookPierModel") (List.mem_of_getElem? (i := 22) rfl))) (fun _ h9 => h9) rfl (zat zrX12_tangles_0_ok 18 rfl) ?_
        refine lv_iconst (v := 1) hx hb (zat zrX12_tangles_0_ok 19 rfl) (by decide) ?_
        refine lv_isub hx hb (zat zrX12_tangles_0_ok 20 rfl) ?_
        obtain ⟨o37, eo37⟩ : ∃ o, o = f_X12_in k2 (0 : Int32) (q_q.1 - (1 : Int32)) := ⟨_, rfl⟩
        have h := nm_of h o37 eo37
        refine ck_i (wc := []) (wr := ((a0, .inr (9, [.int 0, .int m_t.2.1, .int m_t.2.2, .ref a5, g9, g10, g11, g12, g13, g14, g15, g16, g17, g18, g19, g20, g21, g22, g23, g24, g25, g26, g27, g28, g29, g30, g31, g32, g33, g34])) :: bX11 a5 uq kq q_q [])) hP hD hK hS hA [] [0, 1, 2, 3, 4, 5, 6, 7, 8, 9, 10, 11, 12, 13, 14, 15] rfl rfl (by decide) (by decide) (by decide) (fun hPc hDc => (va_runS (As := [.int k2, .int 0, .int (q_q.1 - (1 : Int32))]) (rest := []) ⟨hx, hb, hml, hown, hts⟩ (kfX12_in l dC dI k2 (0 : Int32) (q_q.1 - (1 : Int32)) H.size o37 eo37.symm) (va_cwS 3 hts gfX12_tangles_2 rfl rfl rfl (by decide +kernel) ⟨(Nat.le_of_ble_eq_true rfl), (Nat.le_of_ble_eq_true rfl)⟩) (PS hPc (hK.sub (tys' := ([])) [] rfl) hDc hN) rfl rfl hl.1 rfl (lv_room (Nat.le_of_ble_eq_true rfl)) (zat zrX12_tangles_0_ok 21 rfl) ⟨(Nat.le_of_ble_eq_true rfl), (Nat.le_of_ble_eq_true rfl)⟩)) (fun r37 _ H locs hw hP hD _ hS => ?_)
        obtain ⟨hw, br37⟩ := hw
        obtain rfl := hw.symm
        obtain ⟨hP, hD⟩ := pd_mk ((a0, .inr (9, [.int 0, .int m_t.2.1, .int m_t.2.2, .ref a5, g9, g10, g11, g12, g13, g14, g15, g16, g17, g18, g19, g20, g21, g22, g23, g24, g25, g26, g27, g28, g29, g30, g31, g32, g33, g34])) :: bX11 a5 uq kq q_q []) hP hD
        refine lv_if_eq (tgt := 61) hx hb (zat zrX12_tangles_0_ok 22 rfl) (by decide) (fun c40 => ?_) (fun c40 => ?_)
        · have h := (if_pos c40).symm.trans h
          exact J61  H _ ls h  hP hD hS (lv_sub hl [0] rfl)
        · have h := (if_neg c40).symm.trans h
          refine lv_iload hx hb (zat zrX12_tangles_0_ok 23 rfl) (lv_at hl 4 rfl) ?_
          refine lv_iconst (v := 0) hx hb (zat zrX12_tangles_0_ok 24 rfl) (by decide) ?_
          refine lv_aload_n hx hb (zat zrX12_tangles_0_ok 25 rfl) rfl (lv_at hl 0 rfl) ?_
          refine va_get (D := (dC, dI)) (ci := 9) (v := .ref a5) (C := RX12) (T := TX12) (N := 30) hx hb hts ifX12_tangles_X12 hown hK hP 0 rfl rfl 3 (by decide) (hts (.fieldLink RX12 299 "HookPierModel" "pier" "LHookPierModel$Pier;") (List.mem_of_getElem? (i := 9) rfl)) (fun _ h9 => h9) rfl (zat zrX12_tangles_0_ok 26 rfl) ?_
          refine va_getN (D := (dC, dI)) (ci := 8) (v := .int q_q.1) (C := RX11) (T := TX11) (N := 24) hx hb hts ifX12_tangles_X11 hown hK hP 1 rfl rfl 0 (by decide) (va_Nw.use rfl (hN.1 (.fieldLinkNest RX12 143 "HookPierModel$Pier" "spots" "I" "HookPierModel") (List.mem_of_getElem? (i := 22) rfl))) (fun _ h9 => h9) rfl (zat zrX12_tangles_0_ok 27 rfl) ?_
          refine lv_iconst (v := 1) hx hb (zat zrX12_tangles_0_ok 28 rfl) (by decide) ?_
          refine lv_isub hx hb (zat zrX12_tangles_0_ok 29 rfl) ?_
          obtain ⟨o55, eo55⟩ : ∃ o, o = f_X12_in k4 (0 : Int32) (q_q.1 - (1 : Int32)) := ⟨_, rfl⟩
          have h := nm_of h o55 eo55
          refine ck_i (wc := []) (wr := ((a0, .inr (9, [.int 0, .int m_t.2.1, .int m_t.2.2, .ref a5, g9, g10, g11, g12, g13, g14, g15, g16, g17, g18, g19, g20, g21, g22, g23, g24, g25, g26, g27, g28, g29, g30, g31, g32, g33, g34])) :: bX11 a5 uq kq q_q [])) hP hD hK hS hA [] [0, 1, 2, 3, 4, 5, 6, 7, 8, 9, 10, 11, 12, 13, 14, 15] rfl rfl (by decide) (by decide) (by decide) (fun hPc hDc => (va_runS (As := [.int k4, .int 0, .int (q_q.1 - (1 : Int32))]) (rest := []) ⟨hx, hb, hml, hown, hts⟩ (kfX12_in l dC dI k4 (0 : Int32) (q_q.1 - (1 : Int32)) H.size o55 eo55.symm) (va_cwS 3 hts gfX12_tangles_2 rfl rfl rfl (by decide +kernel) ⟨(Nat.le_of_ble_eq_true rfl), (Nat.le_of_ble_eq_true rfl)⟩) (PS hPc (hK.sub (tys' := ([])) [] rfl) hDc hN) rfl rfl hl.1 rfl (lv_room (Nat.le_of_ble_eq_true rfl)) (zat zrX12_tangles_0_ok 30 rfl) ⟨(Nat.le_of_ble_eq_true rfl), (Nat.le_of_ble_eq_true rfl)⟩)) (fun r55 _ H locs hw hP hD _ hS => ?_)
          obtain ⟨hw, br55⟩ := hw
          obtain rfl := hw.symm
          obtain ⟨hP, hD⟩ := pd_mk ((a0, .inr (9, [.int 0, .int m_t.2.1, .int m_t.2.2, .ref a5, g9, g10, g11, g12, g13, g14, g15, g16, g17, g18, g19, g20, g21, g22, g23, g24, g25, g26, g27, g28, g29, g30, g31, g32, g33, g34])) :: bX11 a5 uq kq q_q []) hP hD
          refine lv_if_ne (tgt := 67) hx hb (zat zrX12_tangles_0_ok 31 rfl) (by decide) (fun c58 => ?_) (fun c58 => ?_)
          · have h := (if_neg c58).symm.trans h
            refine lv_aload_n hx hb (zat zrX12_tangles_0_ok 36 rfl) rfl (lv_at hl 0 rfl) ?_
            refine lv_aload_n hx hb (zat zrX12_tangles_0_ok 37 rfl) rfl (lv_at hl 0 rfl) ?_
            refine lv_iload_n hx hb (zat zrX12_tangles_0_ok 38 rfl) rfl (lv_at hl 1 rfl) ?_
            refine lv_iload_n hx hb (zat zrX12_tangles_0_ok 39 rfl) rfl (lv_at hl 2 rfl) ?_
            refine lv_iload_n hx hb (zat zrX12_tangles_0_ok 40 rfl) rfl (lv_at hl 3 rfl) ?_
            refine lv_iload hx hb (zat zrX12_tangles_0_ok 41 rfl) (lv_at hl 4 rfl) ?_
            obtain ⟨o74, eo74, h⟩ := bd_of h
            refine ck_i (wc := ((a0, .inr (9, [.int 0, .int m_t.2.1, .int m_t.2.2, .ref a5, g9, g10, g11, g12, g13, g14, g15, g16, g17, g18, g19, g20, g21, g22, g23, g24, g25, g26, g27, g28, g29, g30, g31, g32, g33, g34])) :: bX11 a5 uq kq q_q [])) (wr := []) hP hD hK hS hA [0, 1, 2, 3, 4, 5, 6, 7, 8, 9, 10, 11, 12, 13, 14, 15] [] rfl rfl (by decide) (by decide) (by decide) (fun hPc hDc => (va_runV (As := [.int k1, .int k2, .int k3, .int k4]) (rest := [.ref a0]) ⟨hx, hb, hml, hown, hts⟩ (kfX12_areTangled l dC dI a0 k1 k2 k3 k4 a5 uq kq (.int 0) (.int m_t.2.1) (.int m_t.2.2) (g9) (g10) (g11) (g12) (g13) (g14) (g15) (g16) (g17) (g18) (g19) (g20) (g21) (g22) (g23) (g24) (g25) (g26) (g27) (g28) (g29) (g30) (g31) (g32) (g33) (g34) q_q H.size o74 eo74) (cwV 4 hts gfX12_tangles_3 rfl rfl rfl (by decide +kernel) ⟨(Nat.le_of_ble_eq_true rfl), (Nat.le_of_ble_eq_true rfl)⟩) (PV hPc (hK.sub (tys' := (tX11 kq ([]))) [0, 1, 2, 3, 4, 5, 6, 7, 8, 9, 10, 11, 12, 13] rfl) hDc hN 0 rfl rfl) rfl rfl hl.1 rfl (lv_room (Nat.le_of_ble_eq_true rfl)) (zat zrX12_tangles_0_ok 42 rfl) ⟨(Nat.le_of_ble_eq_true rfl), (Nat.le_of_ble_eq_true rfl)⟩)) (fun r74 _ H locs hw hP hD _ hS => ?_)
            obtain ⟨hw, br74⟩ := hw
            obtain rfl := hw.symm
            obtain ⟨hP, hD⟩ := pd_mk ((a0, .inr (9, [.int 0, .int m_t.2.1, .int m_t.2.2, .ref a5, g9, g10, g11, g12, g13, g14, g15, g16, g17, g18, g19, g20, g21, g22, g23, g24, g25, g26, g27, g28, g29, g30, g31, g32, g33, g34])) :: bX11 a5 uq kq q_q []) hP hD
            have J85 : ∀ (v85_t1 : Int32) (H : Heap) (locs : List Loc) (ls : Array Slot), f_X12_tangles_J85 m_t v85_t1 = some out → 0 ≤ v85_t1.toInt ∧ v85_t1.toInt ≤ 1 → va_P (dC, dI) vwCl ((a0, .inr (9, [.int 0, .int m_t.2.1, .int m_t.2.2, .ref a5, g9, g10, g11, g12, g13, g14, g15, g16, g17, g18, g19, g20, g21, g22, g23, g24, g25, g26, g27, g28, g29, g30, g31, g32, g33, g34])) :: bX11 a5 uq kq q_q []) H → va_D A ((a0, .inr (9, [.int 0, .int m_t.2.1, .int m_t.2.2, .ref a5, g9, g10, g11, g12, g13, g14, g15, g16, g17, g18, g19, g20, g21, g22, g23, g24, g25, g26, g27, g28, g29, g30, g31, g32, g33, g34])) :: bX11 a5 uq kq q_q []) → va_S A s.heap H locs → lv_has ls 5 [] → W p l e (headSpec vfX12_tangles { frames := 2, cells := 0, slots := 0, locals := 45 }).room s m ([.ref a0, .int k1, .int k2, .int k3, .int k4]).toArray below meth c H locs 0 0 QQ (F0 m 85 ls [.int v85_t1, .ref a0]) := by
              intro v85_t1 H locs ls h zb_v85_t1 hP hD hS hl
              rw [f_X12_tangles_J85] at h
              obtain ⟨o85, eo85⟩ : ∃ o, o = f_X12_good v85_t1 ((0 : Int32), m_t.2) := ⟨_, rfl⟩
              have h := nm_of h o85 eo85
              refine ck_i (wc := ([(a0, .inr (9, [.int 0, .int m_t.2.1, .int m_t.2.2, .ref a5, g9, g10, g11, g12, g13, g14, g15, g16, g17, g18, g19, g20, g21, g22, g23, g24, g25, g26, g27, g28, g29, g30, g31, g32, g33, g34]))])) (wr := (bX11 a5 uq kq q_q [])) hP hD hK hS hA [0] [1, 2, 3, 4, 5, 6, 7, 8, 9, 10, 11, 12, 13, 14, 15] rfl rfl (by decide) (by decide) (by decide) (fun hPc hDc => (va_runV (As := [.int v85_t1]) (rest := []) ⟨hx, hb, hml, hown, hts⟩ (kfX12_good l dC dI a0 v85_t1 ((0 : Int32), m_t.2) (.ref a5) (g9) (g10) (g11) (g12) (g13) (g14) (g15) (g16) (g17) (g18) (g19) (g20) (g21) (g22) (g23) (g24) (g25) (g26) (g27) (g28) (g29) (g30) (g31) (g32) (g33) (g34) H.size o85 eo85.symm) (cwV 1 hts gfX12_tangles_4 rfl rfl rfl (by decide +kernel) ⟨(Nat.le_of_ble_eq_true rfl), (Nat.le_of_ble_eq_true rfl)⟩) (PV hPc (hK.sub (tys' := ([])) [] rfl) hDc hN 0 rfl rfl) rfl rfl hl.1 rfl (lv_room (Nat.le_of_ble_eq_true rfl)) (zat zrX12_tangles_0_ok 47 rfl) ⟨(Nat.le_of_ble_eq_true rfl), (Nat.le_of_ble_eq_true rfl)⟩)) (fun r85 _ H locs hw hP hD _ hS => ?_)
              obtain rfl := hw
              obtain ⟨hP, hD⟩ := pd_mk (bX11 a5 uq kq q_q ([(a0, .inr (9, [.int o85.2.1, .int o85.2.2.1, .int o85.2.2.2, .ref a5, g9, g10, g11, g12, g13, g14, g15, g16, g17, g18, g19, g20, g21, g22, g23, g24, g25, g26, g27, g28, g29, g30, g31, g32, g33, g34]))])) hP hD
              obtain rfl := Option.some.inj h
              obtain ⟨hP9, hD9⟩ := pd_sub ((a0, .inr (9, [.int o85.2.1, .int o85.2.2.1, .int o85.2.2.2, .ref a5, g9, g10, g11, g12, g13, g14, g15, g16, g17, g18, g19, g20, g21, g22, g23, g24, g25, g26, g27, g28, g29, g30, g31, g32, g33, g34])) :: bX11 a5 uq kq q_q []) [15, 0, 1, 2, 3, 4, 5, 6, 7, 8, 9, 10, 11, 12, 13, 14] hP hD (by decide) rfl
              have hK9 := hK.sub (tys' := []) [] rfl
              rw [hQQ]
              exact W.iret (v := o85.1) hx hb hr (fun t ht hW => ⟨⟨o85.1, (), rfl, rfl, by rw [ht]; exact hP9, va_K.moved hW.alike hK9, hD9⟩, hS.F ht⟩) hS.2.2 (zat zrX12_tangles_0_ok 48 rfl)
            refine lv_if_eq (tgt := 84) hx hb (zat zrX12_tangles_0_ok 43 rfl) (by decide) (fun c77 => ?_) (fun c77 => ?_)
            · have h := (if_pos c77).symm.trans h
              refine lv_iconst (v := 0) hx hb (zat zrX12_tangles_0_ok 46 rfl) (by decide) ?_
              exact J85 (0 : Int32) H _ ls h (by decide) hP hD hS (lv_sub hl [] rfl)
            · have h := (if_neg c77).symm.trans h
              refine lv_iconst (v := 1) hx hb (zat zrX12_tangles_0_ok 44 rfl) (by decide) ?_
              refine lv_goto (tgt := 85) hx hb (zat zrX12_tangles_0_ok 45 rfl) (by decide) ?_
              exact J85 (1 : Int32) H _ ls h (by decide) hP hD hS (lv_sub hl [] rfl)
          · have h := (if_pos c58).symm.trans h
            exact J61  H _ ls h  hP hD hS (lv_sub hl [0] rfl)
noncomputable def zrX12_allAskers_0 : List ZR := zc 0 true (.iconst 1) 1 (zc 1 true (.aload_n 0) 1 (zc 2 true (.getfield 299) 3 (zc 5 true (.getfield 224) 3 (zc 8 true (.ishl) 1 (zc 9 true (.iconst 1) 1 (zc 10 true (.isub) 1 (zc 11 true (.ireturn) 1 ([]))))))))
theorem zrX12_allAskers_0_ok : zck 0 ((zby cX12_allAskers).drop 0) zrX12_allAskers_0 = true := by decide +kernel
def vfX12_allAskers : List Cond := List.cons (.code yX12_allAskers cX12_allAskers 1 (some .int)) (apW [.fieldLink RX12 299 "HookPierModel" "pier" "LHookPierModel$Pier;"] (apW wsX120 (wsX110)))
theorem ifX12_allAskers_X12 : ∀ w ∈ wsX120, w ∈ vfX12_allAskers := fun _ h => (List.mem_cons_of_mem _ (List.mem_append_right _ (List.mem_append_left _ h)))
theorem ifX12_allAskers_X11 : ∀ w ∈ wsX110, w ∈ vfX12_allAskers := fun _ h => (List.mem_cons_of_mem _ (List.mem_append_right _ (List.mem_append_right _ h)))
theorem qfX12_allAskers : Good vfX12_allAskers := gd_cons (by decide +kernel) (gd_app (gd_dec (by decide +kernel) : Good [.fieldLink RX12 299 "HookPierModel" "pier" "LHookPierModel$Pier;"]) (gd_app qsX12 qsX11))
set_option maxHeartbeats 2000000 in
set_option maxRecDepth 100000 in
theorem kfX12_allAskers (l : Launch) (dC : Nat → ClassId) (dI : Nat → Nat → Nat) (a0 : Nat) (a1 : Nat) (uq : Nat → Nat) (kq : Nat → ClassId) (g4 : Value) (g5 : Value) (g6 : Value) (g7 : Value) (g8 : Value) (g9 : Value) (g10 : Value) (g11 : Value) (g12 : Value) (g13 : Value) (g14 : Value) (g15 : Value) (g16 : Value) (g17 : Value) (g18 : Value) (g19 : Value) (g20 : Value) (g21 : Value) (g22 : Value) (g23 : Value) (g24 : Value) (g25 : Value) (g26 : Value) (g27 : Value) (g28 : Value) (g29 : Value) (g30 : Value) (g31 : Value) (g32 : Value) (q_q : TX11_q) (sz : Nat) (out : Int32) (h : f_X12_allAskers q_q = out) : KDi l yX12_allAskers vfX12_allAskers ({ frames := 0, cells := 0, slots := 0, locals := 0 }) (dC, dI) [.ref a0] sz ((a0, .inr (9, [g4, g5, g6, .ref a1, g7, g8, g9, g10, g11, g12, g13, g14, g15, g16, g17, g18, g19, g20, g21, g22, g23, g24, g25, g26, g27, g28, g29, g30, g31, g32])) :: bX11 a1 uq kq q_q []) (tX11 kq ([])) (fun (r : Int32) _ => r = out) 0 0 := by
  refine Met.ofW (cc := cX12_allAskers) (maxL := 1) (ret := (some .int)) (by decide) rfl ?_
  intro p e s m args below meth c s₁ B0 hml hv
  obtain ⟨rfl, hsz, hP, hK, hD0, hN⟩ := hv
  have hx := B0.exec
  have hb := B0.bytes
  have hr := B0.returns
  have hts := atoms_spec (ws := vfX12_allAskers) B0.pre
  have hown : s.vm.findClass RX12 = some m.cls := findClass_of_methodNamed B0.named
  have hlocks := B0.notSynchronized
  subst hsz
  have hD := hD0.self (sz := s.heap.size)
  generalize hAe : va_A ((a0, .inr (9, [g4, g5, g6, .ref a1, g7, g8, g9, g10, g11, g12, g13, g14, g15, g16, g17, g18, g19, g20, g21, g22, g23, g24, g25, g26, g27, g28, g29, g30, g31, g32])) :: bX11 a1 uq kq q_q []) s.heap.size = A at hD ⊢
  have hA : ∀ q : Nat, s.heap.size ≤ q → A q := fun q h => by rw [← hAe]; exact Or.inr h
  have hS : va_S A s.heap s.heap [] := va_S.rf
  have hP : va_P (dC, dI) vwCl ((a0, .inr (9, [g4, g5, g6, .ref a1, g7, g8, g9, g10, g11, g12, g13, g14, g15, g16, g17, g18, g19, g20, g21, g22, g23, g24, g25, g26, g27, g28, g29, g30, g31, g32])) :: bX11 a1 uq kq q_q []) s.heap := hP
  have hl := lv_entry ([.ref a0]) (n := 1) (Nat.le_of_ble_eq_true rfl)
  rw [lg_entry_eq]
  generalize (lg_sl ([.ref a0]) ++ List.replicate (1 - (lg_sl ([.ref a0])).length) Slot.unset).toArray = ls at hl ⊢
  have hl : lv_has ls 1 [(0, .ref a0)] := hl
  refine W_q (fun QQ hQQ => ?_)
  rw [f_X12_allAskers] at h
  refine lv_iconst (v := 1) hx hb (zat zrX12_allAskers_0_ok 0 rfl) (by decide) ?_
  refine lv_aload_n hx hb (zat zrX12_allAskers_0_ok 1 rfl) rfl (lv_at hl 0 rfl) ?_
  refine va_get (D := (dC, dI)) (ci := 9) (v := .ref a1) (C := RX12) (T := TX12) (N := 30) hx hb hts ifX12_allAskers_X12 hown hK hP 0 rfl rfl 3 (by decide) (hts (.fieldLink RX12 299 "HookPierModel" "pier" "LHookPierModel$Pier;") (List.mem_of_getElem? (i := 1) rfl)) (fun _ h9 => h9) rfl (zat zrX12_allAskers_0_ok 2 rfl) ?_
  refine va_getN (D := (dC, dI)) (ci := 8) (v := .int q_q.2.2.2.2.2.1) (C := RX11) (T := TX11) (N := 24) hx hb hts ifX12_allAskers_X11 hown hK hP 1 rfl rfl 5 (by decide) (va_Nw.use rfl (hN.1 (.fieldLinkNest RX12 224 "HookPierModel$Pier" "askers" "I" "HookPierModel") (List.mem_of_getElem? (i := 27) rfl))) (fun _ h9 => h9) rfl (zat zrX12_allAskers_0_ok 3 rfl) ?_
  refine lv_ishl hx hb (zat zrX12_allAskers_0_ok 4 rfl) ?_
  refine lv_iconst (v := 1) hx hb (zat zrX12_allAskers_0_ok 5 rfl) (by decide) ?_
  refine lv_isub hx hb (zat zrX12_allAskers_0_ok 6 rfl) ?_
  obtain rfl := h
  obtain ⟨hP9, hD9⟩ := pd_sub ((a0, .inr (9, [g4, g5, g6, .ref a1, g7, g8, g9, g10, g11, g12, g13, g14, g15, g16, g17, g18, g19, g20, g21, g22, g23, g24, g25, g26, g27, g28, g29, g30, g31, g32])) :: bX11 a1 uq kq q_q []) [0, 1, 2, 3, 4, 5, 6, 7, 8, 9, 10, 11, 12, 13, 14, 15] hP hD (by decide) rfl
  have hK9 := hK.sub (tys' := []) [] rfl
  rw [hQQ]
  exact W.iret (v := (((1 : Int32) <<< (q_q.2.2.2.2.2.1 &&& 31)) - (1 : Int32))) hx hb hr (fun t ht hW => ⟨⟨(((1 : Int32) <<< (q_q.2.2.2.2.2.1 &&& 31)) - (1 : Int32)), (), rfl, rfl, by rw [ht]; exact hP9, va_K.moved hW.alike hK9, hD9⟩, hS.F ht⟩) hS.2.2 (zat zrX12_allAskers_0_ok 7 rfl)
noncomputable def zrX12_bit_0 : List ZR := zc 0 true (.iload_n 0) 1 (zc 1 true (.iload_n 1) 1 (zc 2 true (.ishr) 1 (zc 3 true (.iconst 1) 1 (zc 4 true (.iand) 1 (zc 5 true (.iconst 1) 1 (zc 6 true (.if_icmp .ne 7) 3 (zc 9 true (.iconst 1) 1 (zc 10 true (.goto 4) 3 (zc 13 true (.iconst 0) 1 (zc 14 true (.ireturn) 1 ([])))))))))))
theorem zrX12_bit_0_ok : zck 0 ((zby cX12_bit).drop 0) zrX12_bit_0 = true := by decide +kernel
def vfX12_bit : List Cond := .code yX12_bit cX12_bit 2 (some .boolean) :: ([])
theorem qfX12_bit : Good vfX12_bit := gd_cons (by decide +kernel) (gd_dec (by decide +kernel) : Good [])
set_option maxHeartbeats 2000000 in
set_option maxRecDepth 100000 in
theorem kfX12_bit (l : Launch) (dC : Nat → ClassId) (dI : Nat → Nat → Nat) (k0 : Int32) (k1 : Int32) (sz : Nat) (out : Int32) (h : f_X12_bit k0 k1 = out) : KDi l yX12_bit vfX12_bit ({ frames := 0, cells := 0, slots := 0, locals := 0 }) (dC, dI) [.int k0, .int k1] sz [] ([]) (fun (r : Int32) _ => r = out ∧ (0 ≤ r.toInt ∧ r.toInt ≤ 1)) 0 0 := by
  refine Met.ofW (cc := cX12_bit) (maxL := 2) (ret := (some .boolean)) (by decide) rfl ?_
  intro p e s m args below meth c s₁ B0 hml hv
  obtain ⟨rfl, hsz, hP, hK, hD0, hN⟩ := hv
  have hx := B0.exec
  have hb := B0.bytes
  have hr := B0.returns
  have hts := atoms_spec (ws := vfX12_bit) B0.pre
  have hown : s.vm.findClass RX12 = some m.cls := findClass_of_methodNamed B0.named
  have hlocks := B0.notSynchronized
  subst hsz
  have hD := hD0.self (sz := s.heap.size)
  generalize hAe : va_A [] s.heap.size = A at hD ⊢
  have hA : ∀ q : Nat, s.heap.size ≤ q → A q := fun q h => by rw [← hAe]; exact Or.inr h
  have hS : va_S A s.heap s.heap [] := va_S.rf
  have hP : va_P (dC, dI) vwCl [] s.heap := hP
  have hl := lv_entry ([.int k0, .int k1]) (n := 2) (Nat.le_of_ble_eq_true rfl)
  rw [lg_entry_eq]
  generalize (lg_sl ([.int k0, .int k1]) ++ List.replicate (2 - (lg_sl ([.int k0, .int k1])).length) Slot.unset).toArray = ls at hl ⊢
  have hl : lv_has ls 2 [(0, .int k0), (1, .int k1)] := hl
  refine W_q (fun QQ hQQ => ?_)
  rw [f_X12_bit] at h
  refine lv_iload_n hx hb (zat zrX12_bit_0_ok 0 rfl) rfl (lv_at hl 0 rfl) ?_
  refine lv_iload_n hx hb (zat zrX12_bit_0_ok 1 rfl) rfl (lv_at hl 1 rfl) ?_
  refine lv_ishr hx hb (zat zrX12_bit_0_ok 2 rfl) ?_
  refine lv_iconst (v := 1) hx hb (zat zrX12_bit_0_ok 3 rfl) (by decide) ?_
  refine lv_iand hx hb (zat zrX12_bit_0_ok 4 rfl) ?_
  refine lv_iconst (v := 1) hx hb (zat zrX12_bit_0_ok 5 rfl) (by decide) ?_
  refine lv_icmp_ne (tgt := 13) hx hb (zat zrX12_bit_0_ok 6 rfl) (by decide) (fun c6 => ?_) (fun c6 => ?_)
  · have h := (if_neg c6).symm.trans h
    refine lv_iconst (v := 0) hx hb (zat zrX12_bit_0_ok 9 rfl) (by decide) ?_
    obtain rfl := h
    obtain ⟨hP9, hD9⟩ := pd_sub [] [] hP hD (by decide) rfl
    have hK9 := hK.sub (tys' := []) [] rfl
    rw [hQQ]
    exact W.zret (v := (0 : Int32)) hx hb hr rfl (fun t ht hW => ⟨⟨(0 : Int32), (), rfl, ⟨rfl, (by decide)⟩, by rw [ht]; exact hP9, va_K.moved hW.alike hK9, hD9⟩, hS.F ht⟩) hS.2.2 (zat zrX12_bit_0_ok 10 rfl)
  · have h := (if_pos c6).symm.trans h
    refine lv_iconst (v := 1) hx hb (zat zrX12_bit_0_ok 7 rfl) (by decide) ?_
    refine lv_goto (tgt := 14) hx hb (zat zrX12_bit_0_ok 8 rfl) (by decide) ?_
    obtain rfl := h
    obtain ⟨hP9, hD9⟩ := pd_sub [] [] hP hD (by decide) rfl
    have hK9 := hK.sub (tys' := []) [] rfl
    rw [hQQ]
    exact W.zret (v := (1 : Int32)) hx hb hr rfl (fun t ht hW => ⟨⟨(1 : Int32), (), rfl, ⟨rfl, (by decide)⟩, by rw [ht]; exact hP9, va_K.moved hW.alike hK9, hD9⟩, hS.F ht⟩) hS.2.2 (zat zrX12_bit_0_ok 10 rfl)
noncomputable def zrX12_nextIn_0 : List ZR := zc 0 true (.iload_n 2) 1 (zc 1 true (.istore_n 3) 1 (zc 2 true (.iload_n 3) 1 (zc 3 true (.iconst 5) 1 (zc 4 true (.if_icmp .ge 17) 3 (zc 7 true (.iload_n 1) 1 (zc 8 true (.iload_n 3) 1 (zc 9 true (.invokestatic 390) 3 (zc 12 true (.ifCond .ne 9) 3 (zc 15 true (.iinc 3 1) 3 (zc 18 true (.goto (-16)) 3 (zc 21 true (.iload_n 3) 1 (zc 22 true (.ireturn) 1 ([])))))))))))))
theorem zrX12_nextIn_0_ok : zck 0 ((zby cX12_nextIn).drop 0) zrX12_nextIn_0 = true := by decide +kernel
def vfX12_nextIn : List Cond := List.cons (.code yX12_nextIn cX12_nextIn 4 (some .int)) (apW [.methodLink RX12 390 yX12_bit, .static yX12_bit, .initialized RX12] (vfX12_bit))
theorem qfX12_nextIn : Good vfX12_nextIn := gd_cons (by decide +kernel) (gd_app (gd_dec (by decide +kernel) : Good [.methodLink RX12 390 yX12_bit, .static yX12_bit, .initialized RX12]) qfX12_bit)
theorem gfX12_nextIn_0 : GoodIn vfX12_nextIn (va_wsS RX12 390 yX12_bit vfX12_bit) := goodIn_app (goodIn_r [.methodLink RX12 390 yX12_bit, .static yX12_bit, .initialized RX12] [1, 2, 3] rfl (by decide +kernel)) (goodIn_m (fun _ h => (List.mem_cons_of_mem _ (List.mem_append_right _ h))) qfX12_bit)
set_option maxHeartbeats 2000000 in
set_option maxRecDepth 100000 in
theorem kfX12_nextIn (l : Launch) (dC : Nat → ClassId) (dI : Nat → Nat → Nat) (a0 : Nat) (k1 : Int32) (k2 : Int32) (g3 : Value) (g4 : Value) (g5 : Value) (g6 : Value) (g7 : Value) (g8 : Value) (g9 : Value) (g10 : Value) (g11 : Value) (g12 : Value) (g13 : Value) (g14 : Value) (g15 : Value) (g16 : Value) (g17 : Value) (g18 : Value) (g19 : Value) (g20 : Value) (g21 : Value) (g22 : Value) (g23 : Value) (g24 : Value) (g25 : Value) (g26 : Value) (g27 : Value) (g28 : Value) (g29 : Value) (g30 : Value) (g31 : Value) (g32 : Value) (sz : Nat) (out : Int32) (h : f_X12_nextIn k1 k2 = some out) : KDi l yX12_nextIn vfX12_nextIn ({ frames := 1, cells := 0, slots := 0, locals := 21 }) (dC, dI) [.ref a0, .int k1, .int k2] sz ([(a0, .inr (9, [g3, g4, g5, g6, g7, g8, g9, g10, g11, g12, g13, g14, g15, g16, g17, g18, g19, g20, g21, g22, g23, g24, g25, g26, g27, g28, g29, g30, g31, g32]))]) ([]) (fun (r : Int32) _ => r = out) 0 0 := by
  refine Met.ofW (cc := cX12_nextIn) (maxL := 4) (ret := (some .int)) (by decide) rfl ?_
  intro p e s m args below meth c s₁ B0 hml hv
  obtain ⟨rfl, hsz, hP, hK, hD0, hN⟩ := hv
  have hx := B0.exec
  have hb := B0.bytes
  have hr := B0.returns
  have hts := atoms_spec (ws := vfX12_nextIn) B0.pre
  have hown : s.vm.findClass RX12 = some m.cls := findClass_of_methodNamed B0.named
  have hlocks := B0.notSynchronized
  subst hsz
  have hD := hD0.self (sz := s.heap.size)
  generalize hAe : va_A ([(a0, .inr (9, [g3, g4, g5, g6, g7, g8, g9, g10, g11, g12, g13, g14, g15, g16, g17, g18, g19, g20, g21, g22, g23, g24, g25, g26, g27, g28, g29, g30, g31, g32]))]) s.heap.size = A at hD ⊢
  have hA : ∀ q : Nat, s.heap.size ≤ q → A q := fun q h => by rw [← hAe]; exact Or.inr h
  have hS : va_S A s.heap s.heap [] := va_S.rf
  have hP : va_P (dC, dI) vwCl ([(a0, .inr (9, [g3, g4, g5, g6, g7, g8, g9, g10, g11, g12, g13, g14, g15, g16, g17, g18, g19, g20, g21, g22, g23, g24, g25, g26, g27, g28, g29, g30, g31, g32]))]) s.heap := hP
  have hl := lv_entry ([.ref a0, .int k1, .int k2]) (n := 4) (Nat.le_of_ble_eq_true rfl)
  rw [lg_entry_eq]
  generalize (lg_sl ([.ref a0, .int k1, .int k2]) ++ List.replicate (4 - (lg_sl ([.ref a0, .int k1, .int k2])).length) Slot.unset).toArray = ls at hl ⊢
  have hl : lv_has ls 4 [(0, .ref a0), (1, .int k1), (2, .int k2)] := hl
  refine W_q (fun QQ hQQ => ?_)
  rw [f_X12_nextIn] at h
  refine lv_iload_n hx hb (zat zrX12_nextIn_0_ok 0 rfl) rfl (lv_at hl 2 rfl) ?_
  refine lv_istore_n (lv' := [(3, .int k2), (0, .ref a0), (1, .int k1), (2, .int k2)]) hx hb (zat zrX12_nextIn_0_ok 1 rfl) rfl hl (by decide) rfl (fun ls hl => ?_)
  have L2 : ∀ (n2 : Nat) (v2_l3 : Int32) (H : Heap) (locs : List Loc) (ls : Array Slot), f_X12_nextIn_L2 k1 n2 v2_l3 = some out → va_P (dC, dI) vwCl ([(a0, .inr (9, [g3, g4, g5, g6, g7, g8, g9, g10, g11, g12, g13, g14, g15, g16, g17, g18, g19, g20, g21, g22, g23, g24, g25, g26, g27, g28, g29, g30, g31, g32]))]) H → va_D A ([(a0, .inr (9, [g3, g4, g5, g6, g7, g8, g9, g10, g11, g12, g13, g14, g15, g16, g17, g18, g19, g20, g21, g22, g23, g24, g25, g26, g27, g28, g29, g30, g31, g32]))]) → va_S A s.heap H locs → lv_has ls 4 [(3, .int v2_l3), (1, .int k1)] → W p l e (headSpec vfX12_nextIn { frames := 1, cells := 0, slots := 0, locals := 21 }).room s m ([.ref a0, .int k1, .int k2]).toArray below meth c H locs 0 0 QQ (F0 m 2 ls []) := by
    intro n2
    induction n2 with
    | zero =>
      intro v2_l3 H locs ls h  _ _ _ _
      rw [f_X12_nextIn_L2] at h
      cases h
    | succ n2 ih2 =>
      intro v2_l3 H locs ls h  hP hD hS hl
      rw [f_X12_nextIn_L2] at h
      refine lv_iload_n hx hb (zat zrX12_nextIn_0_ok 2 rfl) rfl (lv_at hl 0 rfl) ?_
      refine lv_iconst (v := 5) hx hb (zat zrX12_nextIn_0_ok 3 rfl) (by decide) ?_
      have J21 : ∀ (H : Heap) (locs : List Loc) (ls : Array Slot), f_X12_nextIn_J21 v2_l3 = some out → va_P (dC, dI) vwCl ([(a0, .inr (9, [g3, g4, g5, g6, g7, g8, g9, g10, g11, g12, g13, g14, g15, g16, g17, g18, g19, g20, g21, g22, g23, g24, g25, g26, g27, g28, g29, g30, g31, g32]))]) H → va_D A ([(a0, .inr (9, [g3, g4, g5, g6, g7, g8, g9, g10, g11, g12, g13, g14, g15, g16, g17, g18, g19, g20, g21, g22, g23, g24, g25, g26, g27, g28, g29, g30, g31, g32]))]) → va_S A s.heap H locs → lv_has ls 4 [(3, .int v2_l3)] → W p l e (headSpec vfX12_nextIn { frames := 1, cells := 0, slots := 0, locals := 21 }).room s m ([.ref a0, .int k1, .int k2]).toArray below meth c H locs 0 0 QQ (F0 m 21 ls []) := by
        intro  H locs ls h  hP hD hS hl
        rw [f_X12_nextIn_J21] at h
        refine lv_iload_n hx hb (zat zrX12_nextIn_0_ok 11 rfl) rfl (lv_at hl 0 rfl) ?_
        obtain rfl := Option.some.inj h
        obtain ⟨hP9, hD9⟩ := pd_sub ([(a0, .inr (9, [g3, g4, g5, g6, g7, g8, g9, g10, g11, g12, g13, g14, g15, g16, g17, g18, g19, g20, g21, g22, g23, g24, g25, g26, g27, g28, g29, g30, g31, g32]))]) [0] hP hD (by decide) rfl
        have hK9 := hK.sub (tys' := []) [] rfl
        rw [hQQ]
        exact W.iret (v := v2_l3) hx hb hr (fun t ht hW => ⟨⟨v2_l3, (), rfl, rfl, by rw [ht]; exact hP9, va_K.moved hW.alike hK9, hD9⟩, hS.F ht⟩) hS.2.2 (zat zrX12_nextIn_0_ok 12 rfl)
      refine lv_icmp_ge (tgt := 21) hx hb (zat zrX12_nextIn_0_ok 4 rfl) (by decide) (fun c4 => ?_) (fun c4 => ?_)
      · have h := (if_pos c4).symm.trans h
        exact J21  H _ ls h  hP hD hS (lv_sub hl [0] rfl)
      · have h := (if_neg c4).symm.trans h
        refine lv_iload_n hx hb (zat zrX12_nextIn_0_ok 5 rfl) rfl (lv_at hl 1 rfl) ?_
        refine lv_iload_n hx hb (zat zrX12_nextIn_0_ok 6 rfl) rfl (lv_at hl 0 rfl) ?_
        obtain ⟨o9, eo9⟩ : ∃ o, o = f_X12_bit k1 v2_l3 := ⟨_, rfl⟩
        have h := nm_of h o9 eo9
        refine ck_i (wc := []) (wr := ([(a0, .inr (9, [g3, g4, g5, g6, g7, g8, g9, g10, g11, g12, g13, g14, g15, g16, g17, g18, g19, g20, g21, g22, g23, g24, g25, g26, g27, g28, g29, g30, g31, g32]))])) hP hD hK hS hA [] [0] rfl rfl (by decide) (by decide) (by decide) (fun hPc hDc => (va_runS (As := [.int k1, .int v2_l3]) (rest := []) ⟨hx, hb, hml, hown, hts⟩ (kfX12_bit l dC dI k1 v2_l3 H.size o9 eo9.symm) (va_cwS 2 hts gfX12_nextIn_0 rfl rfl rfl (by decide +kernel) ⟨(Nat.le_of_ble_eq_true rfl), (Nat.le_of_ble_eq_true rfl)⟩) (PS hPc (hK.sub (tys' := ([])) [] rfl) hDc hN) rfl rfl hl.1 rfl (lv_room (Nat.le_of_ble_eq_true rfl)) (zat zrX12_nextIn_0_ok 7 rfl) ⟨(Nat.le_of_ble_eq_true rfl), (Nat.le_of_ble_eq_true rfl)⟩)) (fun r9 _ H locs hw hP hD _ hS => ?_)
        obtain ⟨hw, br9⟩ := hw
        obtain rfl := hw.symm
        obtain ⟨hP, hD⟩ := pd_mk ([(a0, .inr (9, [g3, g4, g5, g6, g7, g8, g9, g10, g11, g12, g13, g14, g15, g16, g17, g18, g19, g20, g21, g22, g23, g24, g25, g26, g27, g28, g29, g30, g31, g32]))]) hP hD
        refine lv_if_ne (tgt := 21) hx hb (zat zrX12_nextIn_0_ok 8 rfl) (by decide) (fun c12 => ?_) (fun c12 => ?_)
        · have h := (if_neg c12).symm.trans h
          exact J21  H _ ls h  hP hD hS (lv_sub hl [0] rfl)
        · have h := (if_pos c12).symm.trans h
          refine lv_iinc (v := (v2_l3 + (1 : Int32))) (lv' := [(3, .int (v2_l3 + (1 : Int32))), (1, .int k1)]) hx hb (zat zrX12_nextIn_0_ok 9 rfl) hl (k := 0) rfl rfl (by decide) rfl (fun ls hl => ?_)
          refine lv_goto (tgt := 2) hx hb (zat zrX12_nextIn_0_ok 10 rfl) (by decide) ?_
          exact ih2 (v2_l3 + (1 : Int32)) H _ ls h  hP hD hS (lv_sub hl [0, 1] rfl)
  exact L2 FU k2 s.heap _ ls h  hP hD hS (lv_sub hl [0, 2] rfl)
noncomputable def zrX12_isSeat_0 : List ZR := zc 0 true (.iconst 0) 1 (zc 1 true (.istore_n 3) 1 (zc 2 true (.iload_n 3) 1 (zc 3 true (.iload_n 2) 1 (zc 4 true (.if_icmp .ge 40) 3 (zc 7 true (.iload_n 1) 1 (zc 8 true (.iload_n 3) 1 (zc 9 true (.invokestatic 390) 3 (zc 12 true (.ifCond .eq 26) 3 (zc 15 true (.aload_n 0) 1 (zc 16 true (.iload_n 2) 1 (zc 17 true (.aload_n 0) 1 (zc 18 true (.getfield 30) 3 (zc 21 true (.iload_n 2) 1 (zc 22 true (.iaload) 1 (zc 23 true (.iload_n 3) 1 (zc 24 true (.aload_n 0) 1 (zc 25 true (.getfield 30) 3 (zc 28 true (.iload_n 3) 1 (zc 29 true (.iaload) 1 (zc 30 true (.invokevirtual 330) 3 (zc 33 true (.ifCond .eq 5) 3 (zc 36 true (.iconst 0) 1 (zc 37 true (.ireturn) 1 (zc 38 true (.iinc 3 1) 3 (zc 41 true (.goto (-39)) 3 (zc 44 true (.iconst 1) 1 (zc 45 true (.ireturn) 1 ([]))))))))))))))))))))))))))))
theorem zrX12_isSeat_0_ok : zck 0 ((zby cX12_isSeat).drop 0) zrX12_isSeat_0 = true := by decide +kernel
def vfX12_isSeat : List Cond := List.cons (.code yX12_isSeat cX12_isSeat 4 (some .boolean)) (apW [.methodLink RX12 390 yX12_bit, .static yX12_bit, .initialized RX12, .fieldLink RX12 30 "HookPierModel" "seat" "[I", .methodLink RX12 330 yX12_areTangled, .instanceMethod yX12_areTangled, .selects RX12 yX12_areTangled yX12_areTangled] (apW wsX120 (apW vfX12_bit (vfX12_areTangled))))
theorem ifX12_isSeat_X12 : ∀ w ∈ wsX120, w ∈ vfX12_isSeat := fun _ h => (List.mem_cons_of_mem _ (List.mem_append_right _ (List.mem_append_left _ h)))
theorem qfX12_isSeat : Good vfX12_isSeat := gd_cons (by decide +kernel) (gd_app (gd_dec (by decide +kernel) : Good [.methodLink RX12 390 yX12_bit, .static yX12_bit, .initialized RX12, .fieldLink RX12 30 "HookPierModel" "seat" "[I", .methodLink RX12 330 yX12_areTangled, .instanceMethod yX12_areTangled, .selects RX12 yX12_areTangled yX12_areTangled]) (gd_app qsX12 (gd_app qfX12_bit qfX12_areTangled)))
theorem gfX12_isSeat_0 : GoodIn vfX12_isSeat (va_wsS RX12 390 yX12_bit vfX12_bit) := goodIn_app (goodIn_r [.methodLink RX12 390 yX12_bit, .static yX12_bit, .initialized RX12] [1, 2, 3] rfl (by decide +kernel)) (goodIn_m (fun _ h => (List.mem_cons_of_mem _ (List.mem_append_right _ (List.mem_append_right _ (List.mem_append_left _ h))))) qfX12_bit)
theorem gfX12_isSeat_1 : GoodIn vfX12_isSeat (wsV RX12 330 RX12 yX12_areTangled vfX12_areTangled) := goodIn_app (goodIn_r [.methodLink RX12 330 yX12_areTangled, .instanceMethod yX12_areTangled, .selects RX12 yX12_areTangled yX12_areTangled, .initialized RX12] [5, 6, 7, 3] rfl (by decide +kernel)) (goodIn_m (fun _ h => (List.mem_cons_of_mem _ (List.mem_append_right _ (List.mem_append_right _ (List.mem_append_right _ h))))) qfX12_areTangled)
set_option maxHeartbeats 2000000 in
set_option maxRecDepth 100000 in
theorem kfX12_isSeat (l : Launch) (dC : Nat → ClassId) (dI : Nat → Nat → Nat) (a0 : Nat) (k1 : Int32) (k2 : Int32) (a3 : Nat) (a4 : Nat) (a5 : Nat) (uq : Nat → Nat) (kq : Nat → ClassId) (m_z : TX12_z) (g9 : Value) (g10 : Value) (g11 : Value) (g12 : Value) (g13 : Value) (g14 : Value) (g15 : Value) (g16 : Value) (g17 : Value) (g18 : Value) (g19 : Value) (g20 : Value) (g21 : Value) (g22 : Value) (g23 : Value) (g24 : Value) (g25 : Value) (g26 : Value) (g27 : Value) (g28 : Value) (g29 : Value) (g30 : Value) (g31 : Value) (g32 : Value) (g33 : Value) (g34 : Value) (q_q : TX11_q) (cB36 : ClassId) (cB37 : ClassId) (sz : Nat) (out : Int32) (h : f_X12_isSeat k1 k2 m_z q_q = some out) : KDi l yX12_isSeat vfX12_isSeat ({ frames := 2, cells := 0, slots := 0, locals := 45 }) (dC, dI) [.ref a0, .int k1, .int k2] sz ((a0, .inr (9, [g9, g10, g11, .ref a3, g12, g13, g14, g15, g16, g17, g18, g19, g20, g21, g22, g23, g24, g25, g26, g27, g28, .ref a4, .ref a5, .int m_z.2.2, g29, g30, g31, g32, g33, g34])) :: bX11 a3 uq kq q_q ([(a4, .inl (cB36, 5, .inl m_z.1)), (a5, .inl (cB37, 5, .inl m_z.2.1))])) (tX11 kq ((cB36, .int) :: (cB37, .int) :: [])) (fun (r : Int32) _ => r = out ∧ (0 ≤ r.toInt ∧ r.toInt ≤ 1)) 0 0 := by
  refine Met.ofW (cc := cX12_isSeat) (maxL := 4) (ret := (some .boolean)) (by decide) rfl ?_
  intro p e s m args below meth c s₁ B0 hml hv
  obtain ⟨rfl, hsz, hP, hK, hD0, hN⟩ := hv
  have hx := B0.exec
  have hb := B0.bytes
  have hr := B0.returns
  have hts := atoms_spec (ws := vfX12_isSeat) B0.pre
  have hown : s.vm.findClass RX12 = some m.cls := findClass_of_methodNamed B0.named
  have hlocks := B0.notSynchronized
  subst hsz
  have hD := hD0.self (sz := s.heap.size)
  generalize hAe : va_A ((a0, .inr (9, [g9, g10, g11, .ref a3, g12, g13, g14, g15, g16, g17, g18, g19, g20, g21, g22, g23, g24, g25, g26, g27, g28, .ref a4, .ref a5, .int m_z.2.2, g29, g30, g31, g32, g33, g34])) :: bX11 a3 uq kq q_q ([(a4, .inl (cB36, 5, .inl m_z.1)), (a5, .inl (cB37, 5, .inl m_z.2.1))])) s.heap.size = A at hD ⊢
  have hA : ∀ q : Nat, s.heap.size ≤ q → A q := fun q h => by rw [← hAe]; exact Or.inr h
  have hS : va_S A s.heap s.heap [] := va_S.rf
  have hP : va_P (dC, dI) vwCl ((a0, .inr (9, [g9, g10, g11, .ref a3, g12, g13, g14, g15, g16, g17, g18, g19, g20, g21, g22, g23, g24, g25, g26, g27, g28, .ref a4, .ref a5, .int m_z.2.2, g29, g30, g31, g32, g33, g34])) :: bX11 a3 uq kq q_q ([(a4, .inl (cB36, 5, .inl m_z.1)), (a5, .inl (cB37, 5, .inl m_z.2.1))])) s.heap := hP
  have hl := lv_entry ([.ref a0, .int k1, .int k2]) (n := 4) (Nat.le_of_ble_eq_true rfl)
  rw [lg_entry_eq]
  generalize (lg_sl ([.ref a0, .int k1, .int k2]) ++ List.replicate (4 - (lg_sl ([.ref a0, .int k1, .int k2])).length) Slot.unset).toArray = ls at hl ⊢
  have hl : lv_has ls 4 [(0, .ref a0), (1, .int k1), (2, .int k2)] := hl
  refine W_q (fun QQ hQQ => ?_)
  rw [f_X12_isSeat] at h
  refine lv_iconst (v := 0) hx hb (zat zrX12_isSeat_0_ok 0 rfl) (by decide) ?_
  refine lv_istore_n (lv' := [(3, .int 0), (0, .ref a0), (1, .int k1), (2, .int k2)]) hx hb (zat zrX12_isSeat_0_ok 1 rfl) rfl hl (by decide) rfl (fun ls hl => ?_)
  have L2 : ∀ (n2 : Nat) (v2_l3 : Int32) (H : Heap) (locs : List Loc) (ls : Array Slot), f_X12_isSeat_L2 k1 k2 m_z q_q n2 v2_l3 = some out → va_P (dC, dI) vwCl ((a0, .inr (9, [g9, g10, g11, .ref a3, g12, g13, g14, g15, g16, g17, g18, g19, g20, g21, g22, g23, g24, g25, g26, g27, g28, .ref a4, .ref a5, .int m_z.2.2, g29, g30, g31, g32, g33, g34])) :: bX11 a3 uq kq q_q ([(a4, .inl (cB36, 5, .inl m_z.1)), (a5, .inl (cB37, 5, .inl m_z.2.1))])) H → va_D A ((a0, .inr (9, [g9, g10, g11, .ref a3, g12, g13, g14, g15, g16, g17, g18, g19, g20, g21, g22, g23, g24, g25, g26, g27, g28, .ref a4, .ref a5, .int m_z.2.2, g29, g30, g31, g32, g33, g34])) :: bX11 a3 uq kq q_q ([(a4, .inl (cB36, 5, .inl m_z.1)), (a5, .inl (cB37, 5, .inl m_z.2.1))])) → va_S A s.heap H locs → lv_has ls 4 [(3, .int v2_l3), (0, .ref a0), (1, .int k1), (2, .int k2)] → W p l e (headSpec vfX12_isSeat { frames := 2, cells := 0, slots := 0, locals := 45 }).room s m ([.ref a0, .int k1, .int k2]).toArray below meth c H locs 0 0 QQ (F0 m 2 ls []) := by
    intro n2
    induction n2 with
    | zero =>
      intro v2_l3 H locs ls h  _ _ _ _
      rw [f_X12_isSeat_L2] at h
      cases h
    | succ n2 ih2 =>
      intro v2_l3 H locs ls h  hP hD hS hl
      rw [f_X12_isSeat_L2] at h
      refine lv_iload_n hx hb (zat zrX12_isSeat_0_ok 2 rfl) rfl (lv_at hl 0 rfl) ?_
      refine lv_iload_n hx hb (zat zrX12_isSeat_0_ok 3 rfl) rfl (lv_at hl 3 rfl) ?_
      refine lv_icmp_ge (tgt := 44) hx hb (zat zrX12_isSeat_0_ok 4 rfl) (by decide) (fun c4 => ?_) (fun c4 => ?_)
      · have h := (if_pos c4).symm.trans h
        refine lv_iconst (v := 1) hx hb (zat zrX12_isSeat_0_ok 26 rfl) (by decide) ?_
        obtain rfl := Option.some.inj h
        obtain ⟨hP9, hD9⟩ := pd_sub ((a0, .inr (9, [g9, g10, g11, .ref a3, g12, g13, g14, g15, g16, g17, g18, g19, g20, g21, g22, g23, g24, g25, g26, g27, g28, .ref a4, .ref a5, .int m_z.2.2, g29, g30, g31, g32, g33, g34])) :: bX11 a3 uq kq q_q ([(a4, .inl (cB36, 5, .inl m_z.1)), (a5, .inl (cB37, 5, .inl m_z.2.1))])) [0, 1, 2, 3, 4, 5, 6, 7, 8, 9, 10, 11, 12, 13, 14, 15, 16, 17] hP hD (by decide) rfl
        have hK9 := hK.sub (tys' := []) [] rfl
        rw [hQQ]
        exact W.zret (v := (1 : Int32)) hx hb hr rfl (fun t ht hW => ⟨⟨(1 : Int32), (), rfl, ⟨rfl, (by decide)⟩, by rw [ht]; exact hP9, va_K.moved hW.alike hK9, hD9⟩, hS.F ht⟩) hS.2.2 (zat zrX12_isSeat_0_ok 27 rfl)
      · have h := (if_neg c4).symm.trans h
        refine lv_iload_n hx hb (zat zrX12_isSeat_0_ok 5 rfl) rfl (lv_at hl 2 rfl) ?_
        refine lv_iload_n hx hb (zat zrX12_isSeat_0_ok 6 rfl) rfl (lv_at hl 0 rfl) ?_
        obtain ⟨o9, eo9⟩ : ∃ o, o = f_X12_bit k1 v2_l3 := ⟨_, rfl⟩
        have h := nm_of h o9 eo9
        refine ck_i (wc := []) (wr := ((a0, .inr (9, [g9, g10, g11, .ref a3, g12, g13, g14, g15, g16, g17, g18, g19, g20, g21, g22, g23, g24, g25, g26, g27, g28, .ref a4, .ref a5, .int m_z.2.2, g29, g30, g31, g32, g33, g34])) :: bX11 a3 uq kq q_q ([(a4, .inl (cB36, 5, .inl m_z.1)), (a5, .inl (cB37, 5, .inl m_z.2.1))]))) hP hD hK hS hA [] [0, 1, 2, 3, 4, 5, 6, 7, 8, 9, 10, 11, 12, 13, 14, 15, 16, 17] rfl rfl (by decide) (by decide) (by decide) (fun hPc hDc => (va_runS (As := [.int k1, .int v2_l3]) (rest := []) ⟨hx, hb, hml, hown, hts⟩ (kfX12_bit l dC dI k1 v2_l3 H.size o9 eo9.symm) (va_cwS 2 hts gfX12_isSeat_0 rfl rfl rfl (by decide +kernel) ⟨(Nat.le_of_ble_eq_true rfl), (Nat.le_of_ble_eq_true rfl)⟩) (PS hPc (hK.sub (tys' := ([])) [] rfl) hDc hN) rfl rfl hl.1 rfl (lv_room (Nat.le_of_ble_eq_true rfl)) (zat zrX12_isSeat_0_ok 7 rfl) ⟨(Nat.le_of_ble_eq_true rfl), (Nat.le_of_ble_eq_true rfl)⟩)) (fun r9 _ H locs hw hP hD _ hS => ?_)
        obtain ⟨hw, br9⟩ := hw
        obtain rfl := hw.symm
        obtain ⟨hP, hD⟩ := pd_mk ((a0, .inr (9, [g9, g10, g11, .ref a3, g12, g13, g14, g15, g16, g17, g18, g19, g20, g21, g22, g23, g24, g25, g26, g27, g28, .ref a4, .ref a5, .int m_z.2.2, g29, g30, g31, g32, g33, g34])) :: bX11 a3 uq kq q_q ([(a4, .inl (cB36, 5, .inl m_z.1)), (a5, .inl (cB37, 5, .inl m_z.2.1))])) hP hD
        have J38 : ∀ (H : Heap) (locs : List Loc) (ls : Array Slot), f_X12_isSeat_J38 (f_X12_isSeat_L2 k1 k2 m_z q_q n2) v2_l3 = some out → va_P (dC, dI) vwCl ((a0, .inr (9, [g9, g10, g11, .ref a3, g12, g13, g14, g15, g16, g17, g18, g19, g20, g21, g22, g23, g24, g25, g26, g27, g28, .ref a4, .ref a5, .int m_z.2.2, g29, g30, g31, g32, g33, g34])) :: bX11 a3 uq kq q_q ([(a4, .inl (cB36, 5, .inl m_z.1)), (a5, .inl (cB37, 5, .inl m_z.2.1))])) H → va_D A ((a0, .inr (9, [g9, g10, g11, .ref a3, g12, g13, g14, g15, g16, g17, g18, g19, g20, g21, g22, g23, g24, g25, g26, g27, g28, .ref a4, .ref a5, .int m_z.2.2, g29, g30, g31, g32, g33, g34])) :: bX11 a3 uq kq q_q ([(a4, .inl (cB36, 5, .inl m_z.1)), (a5, .inl (cB37, 5, .inl m_z.2.1))])) → va_S A s.heap H locs → lv_has ls 4 [(3, .int v2_l3), (0, .ref a0), (1, .int k1), (2, .int k2)] → W p l e (headSpec vfX12_isSeat { frames := 2, cells := 0, slots := 0, locals := 45 }).room s m ([.ref a0, .int k1, .int k2]).toArray below meth c H locs 0 0 QQ (F0 m 38 ls []) := by
          intro  H locs ls h  hP hD hS hl
          rw [f_X12_isSeat_J38] at h
          refine lv_iinc (v := (v2_l3 + (1 : Int32))) (lv' := [(3, .int (v2_l3 + (1 : Int32))), (0, .ref a0), (1, .int k1), (2, .int k2)]) hx hb (zat zrX12_isSeat_0_ok 24 rfl) hl (k := 0) rfl rfl (by decide) rfl (fun ls hl => ?_)
          refine lv_goto (tgt := 2) hx hb (zat zrX12_isSeat_0_ok 25 rfl) (by decide) ?_
          exact ih2 (v2_l3 + (1 : Int32)) H _ ls h  hP hD hS (lv_sub hl [0, 1, 2, 3] rfl)
        refine lv_if_eq (tgt := 38) hx hb (zat zrX12_isSeat_0_ok 8 rfl) (by decide) (fun c12 => ?_) (fun c12 => ?_)
        · have h := (if_pos c12).symm.trans h
          exact J38  H _ ls h  hP hD hS (lv_sub hl [0, 1, 2, 3] rfl)
        · have h := (if_neg c12).symm.trans h
          refine lv_aload_n hx hb (zat zrX12_isSeat_0_ok 9 rfl) rfl (lv_at hl 1 rfl) ?_
          refine lv_iload_n hx hb (zat zrX12_isSeat_0_ok 10 rfl) rfl (lv_at hl 3 rfl) ?_
          refine lv_aload_n hx hb (zat zrX12_isSeat_0_ok 11 rfl) rfl (lv_at hl 1 rfl) ?_
          refine va_get (D := (dC, dI)) (ci := 9) (v := .ref a4) (C := RX12) (T := TX12) (N := 30) hx hb hts ifX12_isSeat_X12 hown hK hP 0 rfl rfl 21 (by decide) (hts (.fieldLink RX12 30 "HookPierModel" "seat" "[I") (List.mem_of_getElem? (i := 4) rfl)) (fun _ h9 => h9) rfl (zat zrX12_isSeat_0_ok 12 rfl) ?_
          refine lv_iload_n hx hb (zat zrX12_isSeat_0_ok 13 rfl) rfl (lv_at hl 3 rfl) ?_
          obtain ⟨hg22, h⟩ := gA_of h
          refine va_iald hx hb hK hP 16 14 rfl rfl hg22 (zat zrX12_isSeat_0_ok 14 rfl) ?_
          refine lv_iload_n hx hb (zat zrX12_isSeat_0_ok 15 rfl) rfl (lv_at hl 0 rfl) ?_
          refine lv_aload_n hx hb (zat zrX12_isSeat_0_ok 16 rfl) rfl (lv_at hl 1 rfl) ?_
          refine va_get (D := (dC, dI)) (ci := 9) (v := .ref a4) (C := RX12) (T := TX12) (N := 30) hx hb hts ifX12_isSeat_X12 hown hK hP 0 rfl rfl 21 (by decide) (hts (.fieldLink RX12 30 "HookPierModel" "seat" "[I") (List.mem_of_getElem? (i := 4) rfl)) (fun _ h9 => h9) rfl (zat zrX12_isSeat_0_ok 17 rfl) ?_
          refine lv_iload_n hx hb (zat zrX12_isSeat_0_ok 18 rfl) rfl (lv_at hl 0 rfl) ?_
          obtain ⟨hg29, h⟩ := gA_of h
          refine va_iald hx hb hK hP 16 14 rfl rfl hg29 (zat zrX12_isSeat_0_ok 19 rfl) ?_
          obtain ⟨o30, eo30, h⟩ := bd_of h
          refine ck_i (wc := ((a0, .inr (9, [g9, g10, g11, .ref a3, g12, g13, g14, g15, g16, g17, g18, g19, g20, g21, g22, g23, g24, g25, g26, g27, g28, .ref a4, .ref a5, .int m_z.2.2, g29, g30, g31, g32, g33, g34])) :: bX11 a3 uq kq q_q [])) (wr := ([(a4, .inl (cB36, 5, .inl m_z.1)), (a5, .inl (cB37, 5, .inl m_z.2.1))])) hP hD hK hS hA [0, 1, 2, 3, 4, 5, 6, 7, 8, 9, 10, 11, 12, 13, 14, 15] [16, 17] rfl rfl (by decide) (by decide) (by decide) (fun hPc hDc => (va_runV (As := [.int k2, .int (m_z.1 (k2).toNatClampNeg), .int v2_l3, .int (m_z.1 (v2_l3).toNatClampNeg)]) (rest := []) ⟨hx, hb, hml, hown, hts⟩ (kfX12_areTangled l dC dI a0 k2 (m_z.1 (k2).toNatClampNeg) v2_l3 (m_z.1 (v2_l3).toNatClampNeg) a3 uq kq (g9) (g10) (g11) (g12) (g13) (g14) (g15) (g16) (g17) (g18) (g19) (g20) (g21) (g22) (g23) (g24) (g25) (g26) (g27) (g28) (.ref a4) (.ref a5) (.int m_z.2.2) (g29) (g30) (g31) (g32) (g33) (g34) q_q H.size o30 eo30) (cwV 4 hts gfX12_isSeat_1 rfl rfl rfl (by decide +kernel) ⟨(Nat.le_of_ble_eq_true rfl), (Nat.le_of_ble_eq_true rfl)⟩) (PV hPc (hK.sub (tys' := (tX11 kq ([]))) [0, 1, 2, 3, 4, 5, 6, 7, 8, 9, 10, 11, 12, 13] rfl) hDc hN 0 rfl rfl) rfl rfl hl.1 rfl (lv_room (Nat.le_of_ble_eq_true rfl)) (zat zrX12_isSeat_0_ok 20 rfl) ⟨(Nat.le_of_ble_eq_true rfl), (Nat.le_of_ble_eq_true rfl)⟩)) (fun r30 _ H locs hw hP hD _ hS => ?_)
          obtain ⟨hw, br30⟩ := hw
          obtain rfl := hw.symm
          obtain ⟨hP, hD⟩ := pd_mk ((a4, .inl (cB36, 5, .inl m_z.1)) :: (a5, .inl (cB37, 5, .inl m_z.2.1)) :: (a0, .inr (9, [g9, g10, g11, .ref a3, g12, g13, g14, g15, g16, g17, g18, g19, g20, g21, g22, g23, g24, g25, g26, g27, g28, .ref a4, .ref a5, .int m_z.2.2, g29, g30, g31, g32, g33, g34])) :: bX11 a3 uq kq q_q []) hP hD
          refine lv_if_eq (tgt := 38) hx hb (zat zrX12_isSeat_0_ok 21 rfl) (by decide) (fun c33 => ?_) (fun c33 => ?_)
          · have h := (if_pos c33).symm.trans h
            exact J38  H _ ls h  (hP.sub (ws' := ((a0, .inr (9, [g9, g10, g11, .ref a3, g12, g13, g14, g15, g16, g17, g18, g19, g20, g21, g22, g23, g24, g25, g26, g27, g28, .ref a4, .ref a5, .int m_z.2.2, g29, g30, g31, g32, g33, g34])) :: bX11 a3 uq kq q_q ([(a4, .inl (cB36, 5, .inl m_z.1)), (a5, .inl (cB37, 5, .inl m_z.2.1))]))) [2, 3, 4, 5, 6, 7, 8, 9, 10, 11, 12, 13, 14, 15, 16, 17, 0, 1] rfl) (hD.sub (ws' := ((a0, .inr (9, [g9, g10, g11, .ref a3, g12, g13, g14, g15, g16, g17, g18, g19, g20, g21, g22, g23, g24, g25, g26, g27, g28, .ref a4, .ref a5, .int m_z.2.2, g29, g30, g31, g32, g33, g34])) :: bX11 a3 uq kq q_q ([(a4, .inl (cB36, 5, .inl m_z.1)), (a5, .inl (cB37, 5, .inl m_z.2.1))]))) [2, 3, 4, 5, 6, 7, 8, 9, 10, 11, 12, 13, 14, 15, 16, 17, 0, 1] (by decide) rfl) hS (lv_sub hl [0, 1, 2, 3] rfl)
          · have h := (if_neg c33).symm.trans h
            refine lv_iconst (v := 0) hx hb (zat zrX12_isSeat_0_ok 22 rfl) (by decide) ?_
            obtain rfl := Option.some.inj h
            obtain ⟨hP9, hD9⟩ := pd_sub ((a0, .inr (9, [g9, g10, g11, .ref a3, g12, g13, g14, g15, g16, g17, g18, g19, g20, g21, g22, g23, g24, g25, g26, g27, g28, .ref a4, .ref a5, .int m_z.2.2, g29, g30, g31, g32, g33, g34])) :: bX11 a3 uq kq q_q ([(a4, .inl (cB36, 5, .inl m_z.1)), (a5, .inl (cB37, 5, .inl m_z.2.1))])) [2, 3, 4, 5, 6, 7, 8, 9, 10, 11, 12, 13, 14, 15, 16, 17, 0, 1] hP hD (by decide) rfl
            have hK9 := hK.sub (tys' := []) [] rfl
            rw [hQQ]
            exact W.zret (v := (0 : Int32)) hx hb hr rfl (fun t ht hW => ⟨⟨(0 : Int32), (), rfl, ⟨rfl, (by decide)⟩, by rw [ht]; exact hP9, va_K.moved hW.alike hK9, hD9⟩, hS.F ht⟩) hS.2.2 (zat zrX12_isSeat_0_ok 23 rfl)
  exact L2 FU (0 : Int32) s.heap _ ls h  hP hD hS (lv_sub hl [0, 1, 2, 3] rfl)
noncomputable def zrX12_lastIn_0 : List ZR := zc 0 true (.iload_n 2) 1 (zc 1 true (.iconst 1) 1 (zc 2 true (.isub) 1 (zc 3 true (.istore_n 3) 1 (zc 4 true (.iload_n 3) 1 (zc 5 true (.ifCond .lt 17) 3 (zc 8 true (.iload_n 1) 1 (zc 9 true (.iload_n 3) 1 (zc 10 true (.invokestatic 390) 3 (zc 13 true (.ifCond .ne 9) 3 (zc 16 true (.iinc 3 (-1)) 3 (zc 19 true (.goto (-15)) 3 (zc 22 true (.iload_n 3) 1 (zc 23 true (.ireturn) 1 ([]))))))))))))))
theorem zrX12_lastIn_0_ok : zck 0 ((zby cX12_lastIn).drop 0) zrX12_lastIn_0 = true := by decide +kernel
def vfX12_lastIn : List Cond := List.cons (.code yX12_lastIn cX12_lastIn 4 (some .int)) (apW [.methodLink RX12 390 yX12_bit, .static yX12_bit, .initialized RX12] (vfX12_bit))
theorem qfX12_lastIn : Good vfX12_lastIn := gd_cons (by decide +kernel) (gd_app (gd_dec (by decide +kernel) : Good [.methodLink RX12 390 yX12_bit, .static yX12_bit, .initialized RX12]) qfX12_bit)
theorem gfX12_lastIn_0 : GoodIn vfX12_lastIn (va_wsS RX12 390 yX12_bit vfX12_bit) := goodIn_app (goodIn_r [.methodLink RX12 390 yX12_bit, .static yX12_bit, .initialized RX12] [1, 2, 3] rfl (by decide +kernel)) (goodIn_m (fun _ h => (List.mem_cons_of_mem _ (List.mem_append_right _ h))) qfX12_bit)
set_option maxHeartbeats 2000000 in
set_option maxRecDepth 100000 in
theorem kfX12_lastIn (l : Launch) (dC : Nat → ClassId) (dI : Nat → Nat → Nat) (a0 : Nat) (k1 : Int32) (k2 : Int32) (g3 : Value) (g4 : Value) (g5 : Value) (g6 : Value) (g7 : Value) (g8 : Value) (g9 : Value) (g10 : Value) (g11 : Value) (g12 : Value) (g13 : Value) (g14 : Value) (g15 : Value) (g16 : Value) (g17 : Value) (g18 : Value) (g19 : Value) (g20 : Value) (g21 : Value) (g22 : Value) (g23 : Value) (g24 : Value) (g25 : Value) (g26 : Value) (g27 : Value) (g28 : Value) (g29 : Value) (g30 : Value) (g31 : Value) (g32 : Value) (sz : Nat) (out : Int32) (h : f_X12_lastIn k1 k2 = some out) : KDi l yX12_lastIn vfX12_lastIn ({ frames := 1, cells := 0, slots := 0, locals := 21 }) (dC, dI) [.ref a0, .int k1, .int k2] sz ([(a0, .inr (9, [g3, g4, g5, g6, g7, g8, g9, g10, g11, g12, g13, g14, g15, g16, g17, g18, g19, g20, g21, g22, g23, g24, g25, g26, g27, g28, g29, g30, g31, g32]))]) ([]) (fun (r : Int32) _ => r = out) 0 0 := by
  refine Met.ofW (cc := cX12_lastIn) (maxL := 4) (ret := (some .int)) (by decide) rfl ?_
  intro p e s m args below meth c s₁ B0 hml hv
  obtain ⟨rfl, hsz, hP, hK, hD0, hN⟩ := hv
  have hx := B0.exec
  have hb := B0.bytes
  have hr := B0.returns
  have hts := atoms_spec (ws := vfX12_lastIn) B0.pre
  have hown : s.vm.findClass RX12 = some m.cls := findClass_of_methodNamed B0.named
  have hlocks := B0.notSynchronized
  subst hsz
  have hD := hD0.self (sz := s.heap.size)
  generalize hAe : va_A ([(a0, .inr (9, [g3, g4, g5, g6, g7, g8, g9, g10, g11, g12, g13, g14, g15, g16, g17, g18, g19, g20, g21, g22, g23, g24, g25, g26, g27, g28, g29, g30, g31, g32]))]) s.heap.size = A at hD ⊢
  have hA : ∀ q : Nat, s.heap.size ≤ q → A q := fun q h => by rw [← hAe]; exact Or.inr h
  have hS : va_S A s.heap s.heap [] := va_S.rf
  have hP : va_P (dC, dI) vwCl ([(a0, .inr (9, [g3, g4, g5, g6, g7, g8, g9, g10, g11, g12, g13, g14, g15, g16, g17, g18, g19, g20, g21, g22, g23, g24, g25, g26, g27, g28, g29, g30, g31, g32]))]) s.heap := hP
  have hl := lv_entry ([.ref a0, .int k1, .int k2]) (n := 4) (Nat.le_of_ble_eq_true rfl)
  rw [lg_entry_eq]
  generalize (lg_sl ([.ref a0, .int k1, .int k2]) ++ List.replicate (4 - (lg_sl ([.ref a0, .int k1, .int k2])).length) Slot.unset).toArray = ls at hl ⊢
  have hl : lv_has ls 4 [(0, .ref a0), (1, .int k1), (2, .int k2)] := hl
  refine W_q (fun QQ hQQ => ?_)
  rw [f_X12_lastIn] at h
  refine lv_iload_n hx hb (zat zrX12_lastIn_0_ok 0 rfl) rfl (lv_at hl 2 rfl) ?_
  refine lv_iconst (v := 1) hx hb (zat zrX12_lastIn_0_ok 1 rfl) (by decide) ?_
  refine lv_isub hx hb (zat zrX12_lastIn_0_ok 2 rfl) ?_
  refine lv_istore_n (lv' := [(3, .int (k2 - (1 : Int32))), (0, .ref a0), (1, .int k1), (2, .int k2)]) hx hb (zat zrX12_lastIn_0_ok 3 rfl) rfl hl (by decide) rfl (fun ls hl => ?_)
  have L4 : ∀ (n4 : Nat) (v4_l3 : Int32) (H : Heap) (locs : List Loc) (ls : Array Slot), f_X12_lastIn_L4 k1 n4 v4_l3 = some out → va_P (dC, dI) vwCl ([(a0, .inr (9, [g3, g4, g5, g6, g7, g8, g9, g10, g11, g12, g13, g14, g15, g16, g17, g18, g19, g20, g21, g22, g23, g24, g25, g26, g27, g28, g29, g30, g31, g32]))]) H → va_D A ([(a0, .inr (9, [g3, g4, g5, g6, g7, g8, g9, g10, g11, g12, g13, g14, g15, g16, g17, g18, g19, g20, g21, g22, g23, g24, g25, g26, g27, g28, g29, g30, g31, g32]))]) → va_S A s.heap H locs → lv_has ls 4 [(3, .int v4_l3), (1, .int k1)] → W p l e (headSpec vfX12_lastIn { frames := 1, cells := 0, slots := 0, locals := 21 }).room s m ([.ref a0, .int k1, .int k2]).toArray below meth c H locs 0 0 QQ (F0 m 4 ls []) := by
    intro n4
    induction n4 with
    | zero =>
      intro v4_l3 H locs ls h  _ _ _ _
      rw [f_X12_lastIn_L4] at h
      cases h
    | succ n4 ih4 =>
      intro v4_l3 H locs ls h  hP hD hS hl
      rw [f_X12_lastIn_L4] at h
      refine lv_iload_n hx hb (zat zrX12_lastIn_0_ok 4 rfl) rfl (lv_at hl 0 rfl) ?_
      have J22 : ∀ (H : Heap) (locs : List Loc) (ls : Array Slot), f_X12_lastIn_J22 v4_l3 = some out → va_P (dC, dI) vwCl ([(a0, .inr (9, [g3, g4, g5, g6, g7, g8, g9, g10, g11, g12, g13, g14, g15, g16, g17, g18, g19, g20, g21, g22, g23, g24, g25, g26, g27, g28, g29, g30, g31, g32]))]) H → va_D A ([(a0, .inr (9, [g3, g4, g5, g6, g7, g8, g9, g10, g11, g12, g13, g14, g15, g16, g17, g18, g19, g20, g21, g22, g23, g24, g25, g26, g27, g28, g29, g30, g31, g32]))]) → va_S A s.heap H locs → lv_has ls 4 [(3, .int v4_l3)] → W p l e (headSpec vfX12_lastIn { frames := 1, cells := 0, slots := 0, locals := 21 }).room s m ([.ref a0, .int k1, .int k2]).toArray below meth c H locs 0 0 QQ (F0 m 22 ls []) := by
        intro  H locs ls h  hP hD hS hl
        rw [f_X12_lastIn_J22] at h
        refine lv_iload_n hx hb (zat zrX12_lastIn_0_ok 12 rfl) rfl (lv_at hl 0 rfl) ?_
        obtain rfl := Option.some.inj h
        obtain ⟨hP9, hD9⟩ := pd_sub ([(a0, .inr (9, [g3, g4, g5, g6, g7, g8, g9, g10, g11, g12, g13, g14, g15, g16, g17, g18, g19, g20, g21, g22, g23, g24, g25, g26, g27, g28, g29, g30, g31, g32]))]) [0] hP hD (by decide) rfl
        have hK9 := hK.sub (tys' := []) [] rfl
        rw [hQQ]
        exact W.iret (v := v4_l3) hx hb hr (fun t ht hW => ⟨⟨v4_l3, (), rfl, rfl, by rw [ht]; exact hP9, va_K.moved hW.alike hK9, hD9⟩, hS.F ht⟩) hS.2.2 (zat zrX12_lastIn_0_ok 13 rfl)
      refine lv_if_lt (tgt := 22) hx hb (zat zrX12_lastIn_0_ok 5 rfl) (by decide) (fun c5 => ?_) (fun c5 => ?_)
      · have h := (if_pos c5).symm.trans h
        exact J22  H _ ls h  hP hD hS (lv_sub hl [0] rfl)
      · have h := (if_neg c5).symm.trans h
        refine lv_iload_n hx hb (zat zrX12_lastIn_0_ok 6 rfl) rfl (lv_at hl 1 rfl) ?_
        refine lv_iload_n hx hb (zat zrX12_lastIn_0_ok 7 rfl) rfl (lv_at hl 0 rfl) ?_
        obtain ⟨o10, eo10⟩ : ∃ o, o = f_X12_bit k1 v4_l3 := ⟨_, rfl⟩
        have h := nm_of h o10 eo10
        refine ck_i (wc := []) (wr := ([(a0, .inr (9, [g3, g4, g5, g6, g7, g8, g9, g10, g11, g12, g13, g14, g15, g16, g17, g18, g19, g20, g21, g22, g23, g24, g25, g26, g27, g28, g29, g30, g31, g32]))])) hP hD hK hS hA [] [0] rfl rfl (by decide) (by decide) (by decide) (fun hPc hDc => (va_runS (As := [.int k1, .int v4_l3]) (rest := []) ⟨hx, hb, hml, hown, hts⟩ (kfX12_bit l dC dI k1 v4_l3 H.size o10 eo10.symm) (va_cwS 2 hts gfX12_lastIn_0 rfl rfl rfl (by decide +kernel) ⟨(Nat.le_of_ble_eq_true rfl), (Nat.le_of_ble_eq_true rfl)⟩) (PS hPc (hK.sub (tys' := ([])) [] rfl) hDc hN) rfl rfl hl.1 rfl (lv_room (Nat.le_of_ble_eq_true rfl)) (zat zrX12_lastIn_0_ok 8 rfl) ⟨(Nat.le_of_ble_eq_true rfl), (Nat.le_of_ble_eq_true rfl)⟩)) (fun r10 _ H locs hw hP hD _ hS => ?_)
        obtain ⟨hw, br10⟩ := hw
        obtain rfl := hw.symm
        obtain ⟨hP, hD⟩ := pd_mk ([(a0, .inr (9, [g3, g4, g5, g6, g7, g8, g9, g10, g11, g12, g13, g14, g15, g16, g17, g18, g19, g20, g21, g22, g23, g24, g25, g26, g27, g28, g29, g30, g31, g32]))]) hP hD
        refine lv_if_ne (tgt := 22) hx hb (zat zrX12_lastIn_0_ok 9 rfl) (by decide) (fun c13 => ?_) (fun c13 => ?_)
        · have h := (if_neg c13).symm.trans h
          exact J22  H _ ls h  hP hD hS (lv_sub hl [0] rfl)
        · have h := (if_pos c13).symm.trans h
          refine lv_iinc (v := (v4_l3 + (-1 : Int32))) (lv' := [(3, .int (v4_l3 + (-1 : Int32))), (1, .int k1)]) hx hb (zat zrX12_lastIn_0_ok 10 rfl) hl (k := 0) rfl rfl (by decide) rfl (fun ls hl => ?_)
          refine lv_goto (tgt := 4) hx hb (zat zrX12_lastIn_0_ok 11 rfl) (by decide) ?_
          exact ih4 (v4_l3 + (-1 : Int32)) H _ ls h  hP hD hS (lv_sub hl [0, 1] rfl)
  exact L4 FU (k2 - (1 : Int32)) s.heap _ ls h  hP hD hS (lv_sub hl [0, 2] rfl)
noncomputable def zrX12_seats_0 : List ZR := zc 0 true (.aload_n 0) 1 (zc 1 true (.iconst 0) 1 (zc 2 true (.putfield 393) 3 (zc 5 true (.iconst 0) 1 (zc 6 true (.istore_n 2) 1 (zc 7 true (.iload_n 2) 1 (zc 8 true (.iconst 5) 1 (zc 9 true (.if_icmp .ge 16) 3 (zc 12 true (.aload_n 0) 1 (zc 13 true (.getfield 30) 3 (zc 16 true (.iload_n 2) 1 (zc 17 true (.iconst (-1)) 1 (zc 18 true (.iastore) 1 (zc 19 true (.iinc 2 1) 3 (zc 22 true (.goto (-15)) 3 (zc 25 true (.aload_n 0) 1 (zc 26 true (.iload_n 1) 1 (zc 27 true (.iconst 0) 1 (zc 28 true (.invokevirtual 396) 3 (zc 31 true (.istore_n 2) 1 (zc 32 true (.iload_n 2) 1 (zc 33 true (.iconst 5) 1 (zc 34 true (.if_icmp .ne 8) 3 (zc 37 true (.aload_n 0) 1 (zc 38 true (.iconst 1) 1 (zc 39 true (.putfield 393) 3 (zc 42 true (.iload_n 2) 1 (zc 43 true (.ifCond .lt 157) 3 (zc 46 true (.iload_n 2) 1 (zc 47 true (.iconst 5) 1 (zc 48 true (.if_icmp .ge 152) 3 (zc 51 true (.aload_n 0) 1 (zc 52 true (.getfield 30) 3 (zc 55 true (.iload_n 2) 1 (zc 56 true (.dup2) 1 (zc 57 true (.iaload) 1 (zc 58 true (.iconst 1) 1 (zc 59 true (.iadd) 1 (zc 60 true (.iastore) 1 (zc 61 true (.aload_n 0) 1 (zc 62 true (.getfield 30) 3 (zc 65 true (.iload_n 2) 1 (zc 66 true (.iaload) 1 (zc 67 true (.aload_n 0) 1 (zc 68 true (.getfield 299) 3 (zc 71 true (.getfield 143) 3 (zc 74 true (.if_icmp .ge 25) 3 (zc 77 true (.aload_n 0) 1 (zc 78 true (.iload_n 1) 1 (zc 79 true (.iload_n 2) 1 (zc 80 true (.invokevirtual 399) 3 (zc 83 true (.ifCond .ne 16) 3 (zc 86 true (.aload_n 0) 1 (zc 87 true (.getfield 30) 3 (zc 90 true (.iload_n 2) 1 (zc 91 true (.dup2) 1 (zc 92 true (.iaload) 1 (zc 93 true (.iconst 1) 1 (zc 94 true (.iadd) 1 (zc 95 true (.iastore) 1 (zc 96 true (.goto (-35)) 3 (zc 99 true (.aload_n 0) 1 (zc 100 true (.iload_n 1) 1 (zc 101 true (.iload_n 2) 1 ([]))))))))))))))))))))))))))))))))))))))))))))))))))))))))))))))))
theorem zrX12_seats_0_ok : zck 0 ((zby cX12_seats).drop 0) zrX12_seats_0 = true := by decide +kernel
noncomputable def zrX12_seats_1 : List ZR := zc 102 true (.iconst 1) 1 (zc 103 true (.iadd) 1 (zc 104 true (.invokevirtual 396) 3 (zc 107 true (.istore_n 3) 1 (zc 108 true (.aload_n 0) 1 (zc 109 true (.getfield 30) 3 (zc 112 true (.iload_n 2) 1 (zc 113 true (.iaload) 1 (zc 114 true (.aload_n 0) 1 (zc 115 true (.getfield 299) 3 (zc 118 true (.getfield 143) 3 (zc 121 true (.if_icmp .lt 20) 3 (zc 124 true (.aload_n 0) 1 (zc 125 true (.getfield 30) 3 (zc 128 true (.iload_n 2) 1 (zc 129 true (.iconst (-1)) 1 (zc 130 true (.iastore) 1 (zc 131 true (.aload_n 0) 1 (zc 132 true (.iload_n 1) 1 (zc 133 true (.iload_n 2) 1 (zc 134 true (.invokevirtual 402) 3 (zc 137 true (.istore_n 2) 1 (zc 138 true (.goto 59) 3 (zc 141 true (.iload_n 3) 1 (zc 142 true (.iconst 5) 1 (zc 143 true (.if_icmp .ge 8) 3 (zc 146 true (.iload_n 3) 1 (zc 147 true (.istore_n 2) 1 (zc 148 true (.goto 49) 3 (zc 151 true (.aload_n 0) 1 (zc 152 true (.getfield 393) 3 (zc 155 true (.ifCond .ne 32) 3 (zc 158 true (.iconst 0) 1 (zc 159 true (.istore 4) 2 (zc 161 true (.iload 4) 2 (zc 163 true (.iconst 5) 1 (zc 164 true (.if_icmp .ge 23) 3 (zc 167 true (.aload_n 0) 1 (zc 168 true (.getfield 33) 3 (zc 171 true (.iload 4) 2 (zc 173 true (.aload_n 0) 1 (zc 174 true (.getfield 30) 3 (zc 177 true (.iload 4) 2 (zc 179 true (.iaload) 1 (zc 180 true (.iastore) 1 (zc 181 true (.iinc 4 1) 3 (zc 184 true (.goto (-23)) 3 (zc 187 true (.aload_n 0) 1 (zc 188 true (.dup) 1 (zc 189 true (.getfield 393) 3 (zc 192 true (.iconst 1) 1 (zc 193 true (.iadd) 1 (zc 194 true (.putfield 393) 3 (zc 197 true (.goto (-155)) 3 (zc 200 true (.return_) 1 ([])))))))))))))))))))))))))))))))))))))))))))))))))))))))
theorem zrX12_seats_1_ok : zck 102 ((zby cX12_seats).drop 102) zrX12_seats_1 = true := by decide +kernel
def vfX12_seats : List Cond := List.cons (.code yX12_seats cX12_seats 5 none) (apW [.fieldLink RX12 393 "HookPierModel" "seatings" "I", .methodLink RX12 396 yX12_nextIn, .instanceMethod yX12_nextIn, .selects RX12 yX12_nextIn yX12_nextIn, .initialized RX12, .fieldLink RX12 30 "HookPierModel" "seat" "[I", .fieldLink RX12 299 "HookPierModel" "pier" "LHookPierModel$Pier;", .fieldLink RX12 33 "HookPierModel" "firstSeat" "[I", .methodLink RX12 402 yX12_lastIn, .instanceMethod yX12_lastIn, .selects RX12 yX12_lastIn yX12_lastIn, .methodLink RX12 399 yX12_isSeat, .instanceMethod yX12_isSeat, .selects RX12 yX12_isSeat yX12_isSeat] (apW wsX120 (apW wsX110 (apW vfX12_nextIn (apW vfX12_lastIn (vfX12_isSeat))))))
theorem ifX12_seats_X12 : ∀ w ∈ wsX120, w ∈ vfX12_seats := fun _ h => (List.mem_cons_of_mem _ (List.mem_append_right _ (List.mem_append_left _ h)))
theorem ifX12_seats_X11 : ∀ w ∈ wsX110, w ∈ vfX12_seats := fun _ h => (List.mem_cons_of_mem _ (List.mem_append_right _ (List.mem_append_right _ (List.mem_append_left _ h))))
theorem qfX12_seats : Good vfX12_seats := gd_cons (by decide +kernel) (gd_app (gd_dec (by decide +kernel) : Good [.fieldLink RX12 393 "HookPierModel" "seatings" "I", .methodLink RX12 396 yX12_nextIn, .instanceMethod yX12_nextIn, .selects RX12 yX12_nextIn yX12_nextIn, .initialized RX12, .fieldLink RX12 30 "HookPierModel" "seat" "[I", .fieldLink RX12 299 "HookPierModel" "pier" "LHookPierModel$Pier;", .fieldLink RX12 33 "HookPierModel" "firstSeat" "[I", .methodLink RX12 402 yX12_lastIn, .instanceMethod yX12_lastIn, .selects RX12 yX12_lastIn yX12_lastIn, .methodLink RX12 399 yX12_isSeat, .instanceMethod yX12_isSeat, .selects RX12 yX12_isSeat yX12_isSeat]) (gd_app qsX12 (gd_app qsX11 (gd_app qfX12_nextIn (gd_app qfX12_lastIn qfX12_isSeat)))))
theorem gfX12_seats_0 : GoodIn vfX12_seats (wsV RX12 396 RX12 yX12_nextIn vfX12_nextIn) := goodIn_app (goodIn_r [.methodLink RX12 396 yX12_nextIn, .instanceMethod yX12_nextIn, .selects RX12 yX12_nextIn yX12_nextIn, .initialized RX12] [2, 3, 4, 5] rfl (by decide +kernel)) (goodIn_m (fun _ h => (List.mem_cons_of_mem _ (List.mem_append_right _ (List.mem_append_right _ (List.mem_append_right _ (List.mem_append_left _ h)))))) qfX12_nextIn)
theorem gfX12_seats_1 : GoodIn vfX12_seats (wsV RX12 402 RX12 yX12_lastIn vfX12_lastIn) := goodIn_app (goodIn_r [.methodLink RX12 402 yX12_lastIn, .instanceMethod yX12_lastIn, .selects RX12 yX12_lastIn yX12_lastIn, .initialized RX12] [9, 10, 11, 5] rfl (by decide +kernel)) (goodIn_m (fun _ h => (List.mem_cons_of_mem _ (List.mem_append_right _ (List.mem_append_right _ (List.mem_append_right _ (List.mem_append_right _ (List.mem_append_left _ h))))))) qfX12_lastIn)
theorem gfX12_seats_2 : GoodIn vfX12_seats (wsV RX12 399 RX12 yX12_isSeat vfX12_isSeat) := goodIn_app (goodIn_r [.methodLink RX12 399 yX12_isSeat, .instanceMethod yX12_isSeat, .selects RX12 yX12_isSeat yX12_isSeat, .initialized RX12] [12, 13, 14, 5] rfl (by decide +kernel)) (goodIn_m (fun _ h => (List.mem_cons_of_mem _ (List.mem_append_right _ (List.mem_append_right _ (List.mem_append_right _ (List.mem_append_right _ (List.mem_append_right _ h))))))) qfX12_isSeat)
set_option maxHeartbeats 2000000 in
set_option maxRecDepth 100000 in
theorem kfX12_seats (l : Launch) (dC : Nat → ClassId) (dI : Nat → Nat → Nat) (a0 : Nat) (k1 : Int32) (a2 : Nat) (a3 : Nat) (a4 : Nat) (uq : Nat → Nat) (kq : Nat → ClassId) (m_z : TX12_z) (g8 : Value) (g9 : Value) (g10 : Value) (g11 : Value) (g12 : Value) (g13 : Value) (g14 : Value) (g15 : Value) (g16 : Value) (g17 : Value) (g18 : Value) (g19 : Value) (g20 : Value) (g21 : Value) (g22 : Value) (g23 : Value) (g24 : Value) (g25 : Value) (g26 : Value) (g27 : Value) (g28 : Value) (g29 : Value) (g30 : Value) (g31 : Value) (g32 : Value) (g33 : Value) (q_q : TX11_q) (cB35 : ClassId) (cB36 : ClassId) (sz : Nat) (out : TX12_z) (h : f_X12_seats k1 m_z q_q = some out) : KCv l yX12_seats vfX12_seats ({ frames := 3, cells := 0, slots := 0, locals := 68 }) (dC, dI) [.ref a0, .int k1] sz ((a0, .inr (9, [g8, g9, g10, .ref a2, g11, g12, g13, g14, g15, g16, g17, g18, g19, g20, g21, g22, g23, g24, g25, g26, g27, .ref a3, .ref a4, .int m_z.2.2, g28, g29, g30, g31, g32, g33])) :: bX11 a2 uq kq q_q ([(a3, .inl (cB35, 5, .inl m_z.1)), (a4, .inl (cB36, 5, .inl m_z.2.1))])) (tX11 kq ((cB35, .int) :: (cB36, .int) :: [])) (fun _ => True) ((a0, .inr (9, [g8, g9, g10, .ref a2, g11, g12, g13, g14, g15, g16, g17, g18, g19, g20, g21, g22, g23, g24, g25, g26, g27, .ref a3, .ref a4, .int out.2.2, g28, g29, g30, g31, g32, g33])) :: bX11 a2 uq kq q_q ([(a3, .inl (cB35, 5, .inl out.1)), (a4, .inl (cB36, 5, .inl out.2.1))])) 0 0 := by
  refine Met.ofW (cc := cX12_seats) (maxL := 5) (ret := none) (by decide) rfl ?_
  intro p e s m args below meth c s₁ B0 hml hv
  obtain ⟨rfl, hsz, hP, hK, hD0, hN⟩ := hv
  have hx := B0.exec
  have hb := B0.bytes
  have hr := B0.returns
  have hts := atoms_spec (ws := vfX12_seats) B0.pre
  have hown : s.vm.findClass RX12 = some m.cls := findClass_of_methodNamed B0.named
  have hlocks := B0.notSynchronized
  subst hsz
  have hD := hD0.self (sz := s.heap.size)
  generalize hAe : va_A ((a0, .inr (9, [g8, g9, g10, .ref a2, g11, g12, g13, g14, g15, g16, g17, g18, g19, g20, g21, g22, g23, g24, g25, g26, g27, .ref a3, .ref a4, .int m_z.2.2, g28, g29, g30, g31, g32, g33])) :: bX11 a2 uq kq q_q ([(a3, .inl (cB35, 5, .inl m_z.1)), (a4, .inl (cB36, 5, .inl m_z.2.1))])) s.heap.size = A at hD ⊢
  have hA : ∀ q : Nat, s.heap.size ≤ q → A q := fun q h => by rw [← hAe]; exact Or.inr h
  have hS : va_S A s.heap s.heap [] := va_S.rf
  have hP : va_P (dC, dI) vwCl ((a0, .inr (9, [g8, g9, g10, .ref a2, g11, g12, g13, g14, g15, g16, g17, g18, g19, g20, g21, g22, g23, g24, g25, g26, g27, .ref a3, .ref a4, .int m_z.2.2, g28, g29, g30, g31, g32, g33])) :: bX11 a2 uq kq q_q ([(a3, .inl (cB35, 5, .inl m_z.1)), (a4, .inl (cB36, 5, .inl m_z.2.1))])) s.heap := hP
  have hl := lv_entry ([.ref a0, .int k1]) (n := 5) (Nat.le_of_ble_eq_true rfl)
  rw [lg_entry_eq]
  generalize (lg_sl ([.ref a0, .int k1]) ++ List.replicate (5 - (lg_sl ([.ref a0, .int k1])).length) Slot.unset).toArray = ls at hl ⊢
  have hl : lv_has ls 5 [(0, .ref a0), (1, .int k1)] := hl
  refine W_q (fun QQ hQQ => ?_)
  rw [f_X12_seats] at h
  refine lv_aload_n hx hb (zat zrX12_seats_0_ok 0 rfl) rfl (lv_at hl 0 rfl) ?_
  refine lv_iconst (v := 0) hx hb (zat zrX12_seats_0_ok 1 rfl) (by decide) ?_
  refine va_put (D := (dC, dI)) (ci := 9) (v := .int 0) (ty := .int) (C := RX12) (T := TX12) (N := 30) hx hb hts ifX12_seats_X12 tyX12 tyX12_ok nmX12 hown hK hP hD hS 0 rfl rfl 23 (by decide) (hts (.fieldLink RX12 393 "HookPierModel" "seatings" "I") (List.mem_of_getElem? (i := 1) rfl)) (fun _ h9 => h9) rfl (by decide +kernel) rfl rfl (Nat.le_of_ble_eq_true rfl) (zat zrX12_seats_0_ok 2 rfl) (fun H locs hP hD hS => ?_)
  obtain ⟨hP, hD⟩ := pd_mk ((a0, .inr (9, [g8, g9, g10, .ref a2, g11, g12, g13, g14, g15, g16, g17, g18, g19, g20, g21, g22, g23, g24, g25, g26, g27, .ref a3, .ref a4, .int 0, g28, g29, g30, g31, g32, g33])) :: bX11 a2 uq kq q_q ([(a3, .inl (cB35, 5, .inl m_z.1)), (a4, .inl (cB36, 5, .inl m_z.2.1))])) hP hD
  refine lv_iconst (v := 0) hx hb (zat zrX12_seats_0_ok 3 rfl) (by decide) ?_
  refine lv_istore_n (lv' := [(2, .int 0), (0, .ref a0), (1, .int k1)]) hx hb (zat zrX12_seats_0_ok 4 rfl) rfl hl (by decide) rfl (fun ls hl => ?_)
  have L7 : ∀ (n7 : Nat) (v7_l2 : Int32) (v7_m_z : TX12_z) (H : Heap) (locs : List Loc) (ls : Array Slot), f_X12_seats_L7 k1 q_q n7 v7_l2 v7_m_z = some out → va_P (dC, dI) vwCl ((a0, .inr (9, [g8, g9, g10, .ref a2, g11, g12, g13, g14, g15, g16, g17, g18, g19, g20, g21, g22, g23, g24, g25, g26, g27, .ref a3, .ref a4, .int v7_m_z.2.2, g28, g29, g30, g31, g32, g33])) :: bX11 a2 uq kq q_q ([(a3, .inl (cB35, 5, .inl v7_m_z.1)), (a4, .inl (cB36, 5, .inl v7_m_z.2.1))])) H → va_D A ((a0, .inr (9, [g8, g9, g10, .ref a2, g11, g12, g13, g14, g15, g16, g17, g18, g19, g20, g21, g22, g23, g24, g25, g26, g27, .ref a3, .ref a4, .int v7_m_z.2.2, g28, g29, g30, g31, g32, g33])) :: bX11 a2 uq kq q_q ([(a3, .inl (cB35, 5, .inl v7_m_z.1)), (a4, .inl (cB36, 5, .inl v7_m_z.2.1))])) → va_S A s.heap H locs → lv_has ls 5 [(2, .int v7_l2), (0, .ref a0), (1, .int k1)] → W p l e (headSpec vfX12_seats { frames := 3, cells := 0, slots := 0, locals := 68 }).room s m ([.ref a0, .int k1]).toArray below meth c H locs 0 0 QQ (F0 m 7 ls []) := by
    intro n7
    induction n7 with
    | zero =>
      intro v7_l2 v7_m_z H locs ls h  _ _ _ _
      rw [f_X12_seats_L7] at h
      cases h
    | succ n7 ih7 =>
      intro v7_l2 v7_m_z H locs ls h  hP hD hS hl
      rw [f_X12_seats_L7] at h
      refine lv_iload_n hx hb (zat zrX12_seats_0_ok 5 rfl) rfl (lv_at hl 0 rfl) ?_
      refine lv_iconst (v := 5) hx hb (zat zrX12_seats_0_ok 6 rfl) (by decide) ?_
      refine lv_icmp_ge (tgt := 25) hx hb (zat zrX12_seats_0_ok 7 rfl) (by decide) (fun c9 => ?_) (fun c9 => ?_)
      · have h := (if_pos c9).symm.trans h
        refine lv_aload_n hx hb (zat zrX12_seats_0_ok 15 rfl) rfl (lv_at hl 1 rfl) ?_
        refine lv_iload_n hx hb (zat zrX12_seats_0_ok 16 rfl) rfl (lv_at hl 2 rfl) ?_
        refine lv_iconst (v := 0) hx hb (zat zrX12_seats_0_ok 17 rfl) (by decide) ?_
        obtain ⟨o28, eo28, h⟩ := bd_of h
        refine ck_i (wc := ([(a0, .inr (9, [g8, g9, g10, .ref a2, g11, g12, g13, g14, g15, g16, g17, g18, g19, g20, g21, g22, g23, g24, g25, g26, g27, .ref a3, .ref a4, .int v7_m_z.2.2, g28, g29, g30, g31, g32, g33]))])) (wr := (bX11 a2 uq kq q_q ([(a3, .inl (cB35, 5, .inl v7_m_z.1)), (a4, .inl (cB36, 5, .inl v7_m_z.2.1))]))) hP hD hK hS hA [0] [1, 2, 3, 4, 5, 6, 7, 8, 9, 10, 11, 12, 13, 14, 15, 16, 17] rfl rfl (by decide) (by decide) (by decide) (fun hPc hDc => (va_runV (As := [.int k1, .int 0]) (rest := []) ⟨hx, hb, hml, hown, hts⟩ (kfX12_nextIn l dC dI a0 k1 (0 : Int32) (g8) (g9) (g10) (.ref a2) (g11) (g12) (g13) (g14) (g15) (g16) (g17) (g18) (g19) (g20) (g21) (g22) (g23) (g24) (g25) (g26) (g27) (.ref a3) (.ref a4) (.int v7_m_z.2.2) (g28) (g29) (g30) (g31) (g32) (g33) H.size o28 eo28) (cwV 2 hts gfX12_seats_0 rfl rfl rfl (by decide +kernel) ⟨(Nat.le_of_ble_eq_true rfl), (Nat.le_of_ble_eq_true rfl)⟩) (PV hPc (hK.sub (tys' := ([])) [] rfl) hDc hN 0 rfl rfl) rfl rfl hl.1 rfl (lv_room (Nat.le_of_ble_eq_true rfl)) (zat zrX12_seats_0_ok 18 rfl) ⟨(Nat.le_of_ble_eq_true rfl), (Nat.le_of_ble_eq_true rfl)⟩)) (fun r28 _ H locs hw hP hD _ hS => ?_)
        obtain rfl := hw.symm
        obtain ⟨hP, hD⟩ := pd_mk (bX11 a2 uq kq q_q ([(a3, .inl (cB35, 5, .inl v7_m_z.1)), (a4, .inl (cB36, 5, .inl v7_m_z.2.1)), (a0, .inr (9, [g8, g9, g10, .ref a2, g11, g12, g13, g14, g15, g16, g17, g18, g19, g20, g21, g22, g23, g24, g25, g26, g27, .ref a3, .ref a4, .int v7_m_z.2.2, g28, g29, g30, g31, g32, g33]))])) hP hD
        refine lv_istore_n (lv' := [(2, .int o28), (0, .ref a0), (1, .int k1)]) hx hb (zat zrX12_seats_0_ok 19 rfl) rfl hl (by decide) rfl (fun ls hl => ?_)
        refine lv_iload_n hx hb (zat zrX12_seats_0_ok 20 rfl) rfl (lv_at hl 0 rfl) ?_
        refine lv_iconst (v := 5) hx hb (zat zrX12_seats_0_ok 21 rfl) (by decide) ?_
        have L42 : ∀ (n42 : Nat) (v42_m_z : TX12_z) (v42_l2 : Int32) (H : Heap) (locs : List Loc) (ls : Array Slot), f_X12_seats_L42 k1 q_q n42 v42_m_z v42_l2 = some out → va_P (dC, dI) vwCl (bX11 a2 uq kq q_q ([(a3, .inl (cB35, 5, .inl v42_m_z.1)), (a4, .inl (cB36, 5, .inl v42_m_z.2.1)), (a0, .inr (9, [g8, g9, g10, .ref a2, g11, g12, g13, g14, g15, g16, g17, g18, g19, g20, g21, g22, g23, g24, g25, g26, g27, .ref a3, .ref a4, .int v42_m_z.2.2, g28, g29, g30, g31, g32, g33]))])) H → va_D A (bX11 a2 uq kq q_q ([(a3, .inl (cB35, 5, .inl v42_m_z.1)), (a4, .inl (cB36, 5, .inl v42_m_z.2.1)), (a0, .inr (9, [g8, g9, g10, .ref a2, g11, g12, g13, g14, g15, g16, g17, g18, g19, g20, g21, g22, g23, g24, g25, g26, g27, .ref a3, .ref a4, .int v42_m_z.2.2, g28, g29, g30, g31, g32, g33]))])) → va_S A s.heap H locs → lv_has ls 5 [(2, .int v42_l2), (0, .ref a0), (1, .int k1)] → W p l e (headSpec vfX12_seats { frames := 3, cells := 0, slots := 0, locals := 68 }).room s m ([.ref a0, .int k1]).toArray below meth c H locs 0 0 QQ (F0 m 42 ls []) := by
          intro n42
          induction n42 with
          | zero =>
            intro v42_m_z v42_l2 H locs ls h  _ _ _ _
            rw [f_X12_seats_L42] at h
            cases h
          | succ n42 ih42 =>
            intro v42_m_z v42_l2 H locs ls h  hP hD hS hl
            rw [f_X12_seats_L42] at h
            refine lv_iload_n hx hb (zat zrX12_seats_0_ok 26 rfl) rfl (lv_at hl 0 rfl) ?_
            refine lv_if_lt (tgt := 200) hx hb (zat zrX12_seats_0_ok 27 rfl) (by decide) (fun c43 => ?_) (fun c43 => ?_)
            · have h := (if_pos c43).symm.trans h
              obtain rfl := Option.some.inj h
              obtain ⟨hP9, hD9⟩ := pd_sub ((a0, .inr (9, [g8, g9, g10, .ref a2, g11, g12, g13, g14, g15, g16, g17, g18, g19, g20, g21, g22, g23, g24, g25, g26, g27, .ref a3, .ref a4, .int v42_m_z.2.2, g28, g29, g30, g31, g32, g33])) :: bX11 a2 uq kq q_q ([(a3, .inl (cB35, 5, .inl v42_m_z.1)), (a4, .inl (cB36, 5, .inl v42_m_z.2.1))])) [17, 0, 1, 2, 3, 4, 5, 6, 7, 8, 9, 10, 11, 12, 13, 14, 15, 16] hP hD (by decide) rfl
              have hK9 := hK.sub (tys' := []) [] rfl
              rw [hQQ]
              exact W.vret hx hb hr (fun t ht hW => ⟨⟨(), rfl, trivial, by rw [ht]; exact hP9, va_K.moved hW.alike hK9, hD9⟩, hS.F ht⟩) hS.2.2 (zat zrX12_seats_1_ok 54 rfl)
            · have h := (if_neg c43).symm.trans h
              refine lv_iload_n hx hb (zat zrX12_seats_0_ok 28 rfl) rfl (lv_at hl 0 rfl) ?_
              refine lv_iconst (v := 5) hx hb (zat zrX12_seats_0_ok 29 rfl) (by decide) ?_
              refine lv_icmp_ge (tgt := 200) hx hb (zat zrX12_seats_0_ok 30 rfl) (by decide) (fun c48 => ?_) (fun c48 => ?_)
              · have h := (if_pos c48).symm.trans h
                obtain rfl := Option.some.inj h
                obtain ⟨hP9, hD9⟩ := pd_sub ((a0, .inr (9, [g8, g9, g10, .ref a2, g11, g12, g13, g14, g15, g16, g17, g18, g19, g20, g21, g22, g23, g24, g25, g26, g27, .ref a3, .ref a4, .int v42_m_z.2.2, g28, g29, g30, g31, g32, g33])) :: bX11 a2 uq kq q_q ([(a3, .inl (cB35, 5, .inl v42_m_z.1)), (a4, .inl (cB36, 5, .inl v42_m_z.2.1))])) [17, 0, 1, 2, 3, 4, 5, 6, 7, 8, 9, 10, 11, 12, 13, 14, 15, 16] hP hD (by decide) rfl
                have hK9 := hK.sub (tys' := []) [] rfl
                rw [hQQ]
                exact W.vret hx hb hr (fun t ht hW => ⟨⟨(), rfl, trivial, by rw [ht]; exact hP9, va_K.moved hW.alike hK9, hD9⟩, hS.F ht⟩) hS.2.2 (zat zrX12_seats_1_ok 54 rfl)
              · have h := (if_neg c48).symm.trans h
                refine lv_aload_n hx hb (zat zrX12_seats_0_ok 31 rfl) rfl (lv_at hl 1 rfl) ?_
                refine va_get (D := (dC, dI)) (ci := 9) (v := .ref a3) (C := RX12) (T := TX12) (N := 30) hx hb hts ifX12_seats_X12 hown hK hP 17 rfl rfl 21 (by decide) (hts (.fieldLink RX12 30 "HookPierModel" "seat" "[I") (List.mem_of_getElem? (i := 6) rfl)) (fun _ h9 => h9) rfl (zat zrX12_seats_0_ok 32 rfl) ?_
                refine lv_iload_n hx hb (zat zrX12_seats_0_ok 33 rfl) rfl (lv_at hl 0 rfl) ?_
                refine lv_dup2_11 hx hb (zat zrX12_seats_0_ok 34 rfl) rfl rfl ?_
                obtain ⟨hg57, h⟩ := gA_of h
                refine va_iald hx hb hK hP 15 14 rfl rfl hg57 (zat zrX12_seats_0_ok 35 rfl) ?_
                refine lv_iconst (v := 1) hx hb (zat zrX12_seats_0_ok 36 rfl) (by decide) ?_
                refine lv_iadd hx hb (zat zrX12_seats_0_ok 37 rfl) ?_
                obtain ⟨hg60, h⟩ := gA_of h
                refine va_iast hx hb hK hP hD hS 15 14 rfl rfl hg60 (zat zrX12_seats_0_ok 38 rfl) (fun H locs hP hD hS => ?_)
                obtain ⟨hP, hD⟩ := pd_mk (bX11 a2 uq kq q_q ([(a3, .inl (cB35, 5, .inl (upd v42_m_z.1 (v42_l2).toNatClampNeg ((v42_m_z.1 (v42_l2).toNatClampNeg) + (1 : Int32))))), (a4, .inl (cB36, 5, .inl v42_m_z.2.1)), (a0, .inr (9, [g8, g9, g10, .ref a2, g11, g12, g13, g14, g15, g16, g17, g18, g19, g20, g21, g22, g23, g24, g25, g26, g27, .ref a3, .ref a4, .int v42_m_z.2.2, g28, g29, g30, g31, g32, g33]))])) hP hD
                have L61 : ∀ (n61 : Nat) (v61_m_z : TX12_z) (H : Heap) (locs : List Loc) (ls : Array Slot), f_X12_seats_L61 k1 q_q (f_X12_seats_L42 k1 q_q n42) v42_l2 n61 v61_m_z = some out → va_P (dC, dI) vwCl (bX11 a2 uq kq q_q ([(a3, .inl (cB35, 5, .inl v61_m_z.1)), (a4, .inl (cB36, 5, .inl v61_m_z.2.1)), (a0, .inr (9, [g8, g9, g10, .ref a2, g11, g12, g13, g14, g15, g16, g17, g18, g19, g20, g21, g22, g23, g24, g25, g26, g27, .ref a3, .ref a4, .int v61_m_z.2.2, g28, g29, g30, g31, g32, g33]))])) H → va_D A (bX11 a2 uq kq q_q ([(a3, .inl (cB35, 5, .inl v61_m_z.1)), (a4, .inl (cB36, 5, .inl v61_m_z.2.1)), (a0, .inr (9, [g8, g9, g10, .ref a2, g11, g12, g13, g14, g15, g16, g17, g18, g19, g20, g21, g22, g23, g24, g25, g26, g27, .ref a3, .ref a4, .int v61_m_z.2.2, g28, g29, g30, g31, g32, g33]))])) → va_S A s.heap H locs → lv_has ls 5 [(2, .int v42_l2), (0, .ref a0), (1, .int k1)] → W p l e (headSpec vfX12_seats { frames := 3, cells := 0, slots := 0, locals := 68 }).room s m ([.ref a0, .int k1]).toArray below meth c H locs 0 0 QQ (F0 m 61 ls []) := by
                  intro n61
                  induction n61 with
                  | zero =>
                    intro v61_m_z H locs ls h  _ _ _ _
                    rw [f_X12_seats_L61] at h
                    cases h
                  | succ n61 ih61 =>
                    intro v61_m_z H locs ls h  hP hD hS hl
                    rw [f_X12_seats_L61] at h
                    refine lv_aload_n hx hb (zat zrX12_seats_0_ok 39 rfl) rfl (lv_at hl 1 rfl) ?_
                    refine va_get (D := (dC, dI)) (ci := 9) (v := .ref a3) (C := RX12) (T := TX12) (N := 30) hx hb hts ifX12_seats_X12 hown hK hP 17 rfl rfl 21 (by decide) (hts (.fieldLink RX12 30 "HookPierModel" "seat" "[I") (List.mem_of_getElem? (i := 6) rfl)) (fun _ h9 => h9) rfl (zat zrX12_seats_0_ok 40 rfl) ?_
                    refine lv_iload_n hx hb (zat zrX12_seats_0_ok 41 rfl) rfl (lv_at hl 0 rfl) ?_
                    obtain ⟨hg66, h⟩ := gA_of h
                    refine va_iald hx hb hK hP 15 14 rfl rfl hg66 (zat zrX12_seats_0_ok 42 rfl) ?_
                    refine lv_aload_n hx hb (zat zrX12_seats_0_ok 43 rfl) rfl (lv_at hl 1 rfl) ?_
                    refine va_get (D := (dC, dI)) (ci := 9) (v := .ref a2) (C := RX12) (T := TX12) (N := 30) hx hb hts ifX12_seats_X12 hown hK hP 17 rfl rfl 3 (by decide) (hts (.fieldLink RX12 299 "HookPierModel" "pier" "LHookPierModel$Pier;") (List.mem_of_getElem? (i := 7) rfl)) (fun _ h9 => h9) rfl (zat zrX12_seats_0_ok 44 rfl) ?_
                    refine va_getN (D := (dC, dI)) (ci := 8) (v := .int q_q.1) (C := RX11) (T := TX11) (N := 24) hx hb hts ifX12_seats_X11 hown hK hP 0 rfl rfl 0 (by decide) (va_Nw.use rfl (hN.1 (.fieldLinkNest RX12 143 "HookPierModel$Pier" "spots" "I" "HookPierModel") (List.mem_of_getElem? (i := 22) rfl))) (fun _ h9 => h9) rfl (zat zrX12_seats_0_ok 45 rfl) ?_
                    have J99 : ∀ (H : Heap) (locs : List Loc) (ls : Array Slot), f_X12_seats_J99 k1 q_q (f_X12_seats_L42 k1 q_q n42) v42_l2 v61_m_z = some out → va_P (dC, dI) vwCl (bX11 a2 uq kq q_q ([(a3, .inl (cB35, 5, .inl v61_m_z.1)), (a4, .inl (cB36, 5, .inl v61_m_z.2.1)), (a0, .inr (9, [g8, g9, g10, .ref a2, g11, g12, g13, g14, g15, g16, g17, g18, g19, g20, g21, g22, g23, g24, g25, g26, g27, .ref a3, .ref a4, .int v61_m_z.2.2, g28, g29, g30, g31, g32, g33]))])) H → va_D A (bX11 a2 uq kq q_q ([(a3, .inl (cB35, 5, .inl v61_m_z.1)), (a4, .inl (cB36, 5, .inl v61_m_z.2.1)), (a0, .inr (9, [g8, g9, g10, .ref a2, g11, g12, g13, g14, g15, g16, g17, g18, g19, g20, g21, g22, g23, g24, g25, g26, g27, .ref a3, .ref a4, .int v61_m_z.2.2, g28, g29, g30, g31, g32, g33]))])) → va_S A s.heap H locs → lv_has ls 5 [(2, .int v42_l2), (0, .ref a0), (1, .int k1)] → W p l e (headSpec vfX12_seats { frames := 3, cells := 0, slots := 0, locals := 68 }).room s m ([.ref a0, .int k1]).toArray below meth c H locs 0 0 QQ (F0 m 99 ls []) := by
                      intro  H locs ls h  hP hD hS hl
                      rw [f_X12_seats_J99] at h
                      refine lv_aload_n hx hb (zat zrX12_seats_0_ok 61 rfl) rfl (lv_at hl 1 rfl) ?_
                      refine lv_iload_n hx hb (zat zrX12_seats_0_ok 62 rfl) rfl (lv_at hl 2 rfl) ?_
                      refine lv_iload_n hx hb (zat zrX12_seats_0_ok 63 rfl) rfl (lv_at hl 0 rfl) ?_
                      refine lv_iconst (v := 1) hx hb (zat zrX12_seats_1_ok 0 rfl) (by decide) ?_
                      refine lv_iadd hx hb (zat zrX12_seats_1_ok 1 rfl) ?_
                      obtain ⟨o104, eo104, h⟩ := bd_of h
                      refine ck_i (wc := ([(a0, .inr (9, [g8, g9, g10, .ref a2, g11, g12, g13, g14, g15, g16, g17, g18, g19, g20, g21, g22, g23, g24, g25, g26, g27, .ref a3, .ref a4, .int v61_m_z.2.2, g28, g29, g30, g31, g32, g33]))])) (wr := (bX11 a2 uq kq q_q ([(a3, .inl (cB35, 5, .inl v61_m_z.1)), (a4, .inl (cB36, 5, .inl v61_m_z.2.1))]))) hP hD hK hS hA [17] [0, 1, 2, 3, 4, 5, 6, 7, 8, 9, 10, 11, 12, 13, 14, 15, 16] rfl rfl (by decide) (by decide) (by decide) (fun hPc hDc => (va_runV (As := [.int k1, .int (v42_l2 + (1 : Int32))]) (rest := []) ⟨hx, hb, hml, hown, hts⟩ (kfX12_nextIn l dC dI a0 k1 (v42_l2 + (1 : Int32)) (g8) (g9) (g10) (.ref a2) (g11) (g12) (g13) (g14) (g15) (g16) (g17) (g18) (g19) (g20) (g21) (g22) (g23) (g24) (g25) (g26) (g27) (.ref a3) (.ref a4) (.int v61_m_z.2.2) (g28) (g29) (g30) (g31) (g32) (g33) H.size o104 eo104) (cwV 2 hts gfX12_seats_0 rfl rfl rfl (by decide +kernel) ⟨(Nat.le_of_ble_eq_true rfl), (Nat.le_of_ble_eq_true rfl)⟩) (PV hPc (hK.sub (tys' := ([])) [] rfl) hDc hN 0 rfl rfl) rfl rfl hl.1 rfl (lv_room (Nat.le_of_ble_eq_true rfl)) (zat zrX12_seats_1_ok 2 rfl) ⟨(Nat.le_of_ble_eq_true rfl), (Nat.le_of_ble_eq_true rfl)⟩)) (fun r104 _ H locs hw hP hD _ hS => ?_)
                      obtain rfl := hw.symm
                      obtain ⟨hP, hD⟩ := pd_mk (bX11 a2 uq kq q_q ([(a3, .inl (cB35, 5, .inl v61_m_z.1)), (a4, .inl (cB36, 5, .inl v61_m_z.2.1)), (a0, .inr (9, [g8, g9, g10, .ref a2, g11, g12, g13, g14, g15, g16, g17, g18, g19, g20, g21, g22, g23, g24, g25, g26, g27, .ref a3, .ref a4, .int v61_m_z.2.2, g28, g29, g30, g31, g32, g33]))])) hP hD
                      refine lv_istore_n (lv' := [(3, .int o104), (2, .int v42_l2), (0, .ref a0), (1, .int k1)]) hx hb (zat zrX12_seats_1_ok 3 rfl) rfl hl (by decide) rfl (fun ls hl => ?_)
                      refine lv_aload_n hx hb (zat zrX12_seats_1_ok 4 rfl) rfl (lv_at hl 2 rfl) ?_
                      refine va_get (D := (dC, dI)) (ci := 9) (v := .ref a3) (C := RX12) (T := TX12) (N := 30) hx hb hts ifX12_seats_X12 hown hK hP 17 rfl rfl 21 (by decide) (hts (.fieldLink RX12 30 "HookPierModel" "seat" "[I") (List.mem_of_getElem? (i := 6) rfl)) (fun _ h9 => h9) rfl (zat zrX12_seats_1_ok 5 rfl) ?_
                      refine lv_iload_n hx hb (zat zrX12_seats_1_ok 6 rfl) rfl (lv_at hl 1 rfl) ?_
                      obtain ⟨hg113, h⟩ := gA_of h
                      refine va_iald hx hb hK hP 15 14 rfl rfl hg113 (zat zrX12_seats_1_ok 7 rfl) ?_
                      refine lv_aload_n hx hb (zat zrX12_seats_1_ok 8 rfl) rfl (lv_at hl 2 rfl) ?_
                      refine va_get (D := (dC, dI)) (ci := 9) (v := .ref a2) (C := RX12) (T := TX12) (N := 30) hx hb hts ifX12_seats_X12 hown hK hP 17 rfl rfl 3 (by decide) (hts (.fieldLink RX12 299 "HookPierModel" "pier" "LHookPierModel$Pier;") (List.mem_of_getElem? (i := 7) rfl)) (fun _ h9 => h9) rfl (zat zrX12_seats_1_ok 9 rfl) ?_
                      refine va_getN (D := (dC, dI)) (ci := 8) (v := .int q_q.1) (C := RX11) (T := TX11) (N := 24) hx hb hts ifX12_seats_X11 hown hK hP 0 rfl rfl 0 (by decide) (va_Nw.use rfl (hN.1 (.fieldLinkNest RX12 143 "HookPierModel$Pier" "spots" "I" "HookPierModel") (List.mem_of_getElem? (i := 22) rfl))) (fun _ h9 => h9) rfl (zat zrX12_seats_1_ok 10 rfl) ?_
                      have J197 : ∀ (v197_l2 : Int32) (v197_m_z : TX12_z) (H : Heap) (locs : List Loc) (ls : Array Slot), f_X12_seats_J197 (f_X12_seats_L42 k1 q_q n42) v197_l2 v197_m_z = some out → va_P (dC, dI) vwCl (bX11 a2 uq kq q_q ([(a3, .inl (cB35, 5, .inl v197_m_z.1)), (a4, .inl (cB36, 5, .inl v197_m_z.2.1)), (a0, .inr (9, [g8, g9, g10, .ref a2, g11, g12, g13, g14, g15, g16, g17, g18, g19, g20, g21, g22, g23, g24, g25, g26, g27, .ref a3, .ref a4, .int v197_m_z.2.2, g28, g29, g30, g31, g32, g33]))])) H → va_D A (bX11 a2 uq kq q_q ([(a3, .inl (cB35, 5, .inl v197_m_z.1)), (a4, .inl (cB36, 5, .inl v197_m_z.2.1)), (a0, .inr (9, [g8, g9, g10, .ref a2, g11, g12, g13, g14, g15, g16, g17, g18, g19, g20, g21, g22, g23, g24, g25, g26, g27, .ref a3, .ref a4, .int v197_m_z.2.2, g28, g29, g30, g31, g32, g33]))])) → va_S A s.heap H locs → lv_has ls 5 [(2, .int v197_l2), (0, .ref a0), (1, .int k1)] → W p l e (headSpec vfX12_seats { frames := 3, cells := 0, slots := 0, locals := 68 }).room s m ([.ref a0, .int k1]).toArray below meth c H locs 0 0 QQ (F0 m 197 ls []) := by
                        intro v197_l2 v197_m_z H locs ls h  hP hD hS hl
                        rw [f_X12_seats_J197] at h
                        refine lv_goto (tgt := 42) hx hb (zat zrX12_seats_1_ok 53 rfl) (by decide) ?_
                        exact ih42 v197_m_z v197_l2 H _ ls h  hP hD hS (lv_sub hl [0, 1, 2] rfl)
                      refine lv_icmp_lt (tgt := 141) hx hb (zat zrX12_seats_1_ok 11 rfl) (by decide) (fun c121 => ?_) (fun c121 => ?_)
                      · have h := (if_pos c121).symm.trans h
                        refine lv_iload_n hx hb (zat zrX12_seats_1_ok 23 rfl) rfl (lv_at hl 0 rfl) ?_
                        refine lv_iconst (v := 5) hx hb (zat zrX12_seats_1_ok 24 rfl) (by decide) ?_
                        refine lv_icmp_ge (tgt := 151) hx hb (zat zrX12_seats_1_ok 25 rfl) (by decide) (fun c143 => ?_) (fun c143 => ?_)
                        · have h := (if_pos c143).symm.trans h
                          refine lv_aload_n hx hb (zat zrX12_seats_1_ok 29 rfl) rfl (lv_at hl 2 rfl) ?_
                          refine va_get (D := (dC, dI)) (ci := 9) (v := .int v61_m_z.2.2) (C := RX12) (T := TX12) (N := 30) hx hb hts ifX12_seats_X12 hown hK hP 17 rfl rfl 23 (by decide) (hts (.fieldLink RX12 393 "HookPierModel" "seatings" "I") (List.mem_of_getElem? (i := 1) rfl)) (fun _ h9 => h9) rfl (zat zrX12_seats_1_ok 30 rfl) ?_
                          have J187 : ∀ (v187_m_z : TX12_z) (H : Heap) (locs : List Loc) (ls : Array Slot), f_X12_seats_J187 (f_X12_seats_L42 k1 q_q n42) v42_l2 v187_m_z = some out → va_P (dC, dI) vwCl (bX11 a2 uq kq q_q ([(a3, .inl (cB35, 5, .inl v187_m_z.1)), (a4, .inl (cB36, 5, .inl v187_m_z.2.1)), (a0, .inr (9, [g8, g9, g10, .ref a2, g11, g12, g13, g14, g15, g16, g17, g18, g19, g20, g21, g22, g23, g24, g25, g26, g27, .ref a3, .ref a4, .int v187_m_z.2.2, g28, g29, g30, g31, g32, g33]))])) H → va_D A (bX11 a2 uq kq q_q ([(a3, .inl (cB35, 5, .inl v187_m_z.1)), (a4, .inl (cB36, 5, .inl v187_m_z.2.1)), (a0, .inr (9, [g8, g9, g10, .ref a2, g11, g12, g13, g14, g15, g16, g17, g18, g19, g20, g21, g22, g23, g24, g25, g26, g27, .ref a3, .ref a4, .int v187_m_z.2.2, g28, g29, g30, g31, g32, g33]))])) → va_S A s.heap H locs → lv_has ls 5 [(2, .int v42_l2), (0, .ref a0), (1, .int k1)] → W p l e (headSpec vfX12_seats { frames := 3, cells := 0, slots := 0, locals := 68 }).room s m ([.ref a0, .int k1]).toArray below meth c H locs 0 0 QQ (F0 m 187 ls []) := by
                            intro v187_m_z H locs ls h  hP hD hS hl
                            rw [f_X12_seats_J187] at h
                            refine lv_aload_n hx hb (zat zrX12_seats_1_ok 47 rfl) rfl (lv_at hl 1 rfl) ?_
                            refine lv_dup hx hb (zat zrX12_seats_1_ok 48 rfl) rfl ?_
                            refine va_get (D := (dC, dI)) (ci := 9) (v := .int v187_m_z.2.2) (C := RX12) (T := TX12) (N := 30) hx hb hts ifX12_seats_X12 hown hK hP 17 rfl rfl 23 (by decide) (hts (.fieldLink RX12 393 "HookPierModel" "seatings" "I") (List.mem_of_getElem? (i := 1) rfl)) (fun _ h9 => h9) rfl (zat zrX12_seats_1_ok 49 rfl) ?_
                            refine lv_iconst (v := 1) hx hb (zat zrX12_seats_1_ok 50 rfl) (by decide) ?_
                            refine lv_iadd hx hb (zat zrX12_seats_1_ok 51 rfl) ?_
                            refine va_put (D := (dC, dI)) (ci := 9) (v := .int (v187_m_z.2.2 + (1 : Int32))) (ty := .int) (C := RX12) (T := TX12) (N := 30) hx hb hts ifX12_seats_X12 tyX12 tyX12_ok nmX12 hown hK hP hD hS 17 rfl rfl 23 (by decide) (hts (.fieldLink RX12 393 "HookPierModel" "seatings" "I") (List.mem_of_getElem? (i := 1) rfl)) (fun _ h9 => h9) rfl (by decide +kernel) rfl rfl (Nat.le_of_ble_eq_true rfl) (zat zrX12_seats_1_ok 52 rfl) (fun H locs hP hD hS => ?_)
                            obtain ⟨hP, hD⟩ := pd_mk (bX11 a2 uq kq q_q ([(a3, .inl (cB35, 5, .inl v187_m_z.1)), (a4, .inl (cB36, 5, .inl v187_m_z.2.1)), (a0, .inr (9, [g8, g9, g10, .ref a2, g11, g12, g13, g14, g15, g16, g17, g18, g19, g20, g21, g22, g23, g24, g25, g26, g27, .ref a3, .ref a4, .int (v187_m_z.2.2 + (1 : Int32)), g28, g29, g30, g31, g32, g33]))])) hP hD
                            exact J197 v42_l2 (v187_m_z.1, v187_m_z.2.1, (v187_m_z.2.2 + (1 : Int32))) H _ ls h  hP hD hS (lv_sub hl [0, 1, 2] rfl)
                          refine lv_if_ne (tgt := 187) hx hb (zat zrX12_seats_1_ok 31 rfl) (by decide) (fun c155 => ?_) (fun c155 => ?_)
                          · have h := (if_neg c155).symm.trans h
                            exact J187 v61_m_z H _ ls h  hP hD hS (lv_sub hl [1, 2, 3] rfl)
                          · have h := (if_pos c155).symm.trans h
                            refine lv_iconst (v := 0) hx hb (zat zrX12_seats_1_ok 32 rfl) (by decide) ?_
                            refine lv_istore (lv' := [(4, .int 0), (3, .int o104), (2, .int v42_l2), (0, .ref a0), (1, .int k1)]) hx hb (zat zrX12_seats_1_ok 33 rfl) hl (by decide) rfl (fun ls hl => ?_)
                            have L161 : ∀ (n161 : Nat) (v161_l4 : Int32) (v161_m_z : TX12_z) (H : Heap) (locs : List Loc) (ls : Array Slot), f_X12_seats_L161 (f_X12_seats_L42 k1 q_q n42) v42_l2 n161 v161_l4 v161_m_z = some out → va_P (dC, dI) vwCl (bX11 a2 uq kq q_q ([(a3, .inl (cB35, 5, .inl v161_m_z.1)), (a4, .inl (cB36, 5, .inl v161_m_z.2.1)), (a0, .inr (9, [g8, g9, g10, .ref a2, g11, g12, g13, g14, g15, g16, g17, g18, g19, g20, g21, g22, g23, g24, g25, g26, g27, .ref a3, .ref a4, .int v161_m_z.2.2, g28, g29, g30, g31, g32, g33]))])) H → va_D A (bX11 a2 uq kq q_q ([(a3, .inl (cB35, 5, .inl v161_m_z.1)), (a4, .inl (cB36, 5, .inl v161_m_z.2.1)), (a0, .inr (9, [g8, g9, g10, .ref a2, g11, g12, g13, g14, g15, g16, g17, g18, g19, g20, g21, g22, g23, g24, g25, g26, g27, .ref a3, .ref a4, .int v161_m_z.2.2, g28, g29, g30, g31, g32, g33]))])) → va_S A s.heap H locs → lv_has ls 5 [(4, .int v161_l4), (2, .int v42_l2), (0, .ref a0), (1, .int k1)] → W p l e (headSpec vfX12_seats { frames := 3, cells := 0, slots := 0, locals := 68 }).room s m ([.ref a0, .int k1]).toArray below meth c H locs 0 0 QQ (F0 m 161 ls []) := by
                              intro n161
                              induction n161 with
                              | zero =>
                                intro v161_l4 v161_m_z H locs ls h  _ _ _ _
                                rw [f_X12_seats_L161] at h
                                cases h
                              | succ n161 ih161 =>
                                intro v161_l4 v161_m_z H locs ls h  hP hD hS hl
                                rw [f_X12_seats_L161] at h
                                refine lv_iload hx hb (zat zrX12_seats_1_ok 34 rfl) (lv_at hl 0 rfl) ?_
                                refine lv_iconst (v := 5) hx hb (zat zrX12_seats_1_ok 35 rfl) (by decide) ?_
                                refine lv_icmp_ge (tgt := 187) hx hb (zat zrX12_seats_1_ok 36 rfl) (by decide) (fun c164 => ?_) (fun c164 => ?_)
                                · have h := (if_pos c164).symm.trans h
                                  exact J187 v161_m_z H _ ls h  hP hD hS (lv_sub hl [1, 2, 3] rfl)
                                · have h := (if_neg c164).symm.trans h
                                  refine lv_aload_n hx hb (zat zrX12_seats_1_ok 37 rfl) rfl (lv_at hl 2 rfl) ?_
                                  refine va_get (D := (dC, dI)) (ci := 9) (v := .ref a4) (C := RX12) (T := TX12) (N := 30) hx hb hts ifX12_seats_X12 hown hK hP 17 rfl rfl 22 (by decide) (hts (.fieldLink RX12 33 "HookPierModel" "firstSeat" "[I") (List.mem_of_getElem? (i := 8) rfl)) (fun _ h9 => h9) rfl (zat zrX12_seats_1_ok 38 rfl) ?_
                                  refine lv_iload hx hb (zat zrX12_seats_1_ok 39 rfl) (lv_at hl 0 rfl) ?_
                                  refine lv_aload_n hx hb (zat zrX12_seats_1_ok 40 rfl) rfl (lv_at hl 2 rfl) ?_
                                  refine va_get (D := (dC, dI)) (ci := 9) (v := .ref a3) (C := RX12) (T := TX12) (N := 30) hx hb hts ifX12_seats_X12 hown hK hP 17 rfl rfl 21 (by decide) (hts (.fieldLink RX12 30 "HookPierModel" "seat" "[I") (List.mem_of_getElem? (i := 6) rfl)) (fun _ h9 => h9) rfl (zat zrX12_seats_1_ok 41 rfl) ?_
                                  refine lv_iload hx hb (zat zrX12_seats_1_ok 42 rfl) (lv_at hl 0 rfl) ?_
                                  obtain ⟨hg179, h⟩ := gA_of h
                                  refine va_iald hx hb hK hP 15 14 rfl rfl hg179 (zat zrX12_seats_1_ok 43 rfl) ?_
                                  obtain ⟨hg180, h⟩ := gA_of h
                                  refine va_iast hx hb hK hP hD hS 16 15 rfl rfl hg180 (zat zrX12_seats_1_ok 44 rfl) (fun H locs hP hD hS => ?_)
                                  obtain ⟨hP, hD⟩ := pd_mk (bX11 a2 uq kq q_q ([(a3, .inl (cB35, 5, .inl v161_m_z.1)), (a4, .inl (cB36, 5, .inl (upd v161_m_z.2.1 (v161_l4).toNatClampNeg (v161_m_z.1 (v161_l4).toNatClampNeg)))), (a0, .inr (9, [g8, g9, g10, .ref a2, g11, g12, g13, g14, g15, g16, g17, g18, g19, g20, g21, g22, g23, g24, g25, g26, g27, .ref a3, .ref a4, .int v161_m_z.2.2, g28, g29, g30, g31, g32, g33]))])) hP hD
                                  refine lv_iinc (v := (v161_l4 + (1 : Int32))) (lv' := [(4, .int (v161_l4 + (1 : Int32))), (2, .int v42_l2), (0, .ref a0), (1, .int k1)]) hx hb (zat zrX12_seats_1_ok 45 rfl) hl (k := 0) rfl rfl (by decide) rfl (fun ls hl => ?_)
                                  refine lv_goto (tgt := 161) hx hb (zat zrX12_seats_1_ok 46 rfl) (by decide) ?_
                                  exact ih161 (v161_l4 + (1 : Int32)) (v161_m_z.1, (upd v161_m_z.2.1 (v161_l4).toNatClampNeg (v161_m_z.1 (v161_l4).toNatClampNeg)), v161_m_z.2.2) H _ ls h  hP hD hS (lv_sub hl [0, 1, 2, 3] rfl)
                            exact L161 FU (0 : Int32) v61_m_z H _ ls h  hP hD hS (lv_sub hl [0, 2, 3, 4] rfl)
                        · have h := (if_neg c143).symm.trans h
                          refine lv_iload_n hx hb (zat zrX12_seats_1_ok 26 rfl) rfl (lv_at hl 0 rfl) ?_
                          refine lv_istore_n (lv' := [(2, .int o104), (3, .int o104), (0, .ref a0), (1, .int k1)]) hx hb (zat zrX12_seats_1_ok 27 rfl) rfl hl (by decide) rfl (fun ls hl => ?_)
                          refine lv_goto (tgt := 197) hx hb (zat zrX12_seats_1_ok 28 rfl) (by decide) ?_
                          exact J197 o104 v61_m_z H _ ls h  hP hD hS (lv_sub hl [0, 2, 3] rfl)
                      · have h := (if_neg c121).symm.trans h
                        refine lv_aload_n hx hb (zat zrX12_seats_1_ok 12 rfl) rfl (lv_at hl 2 rfl) ?_
                        refine va_get (D := (dC, dI)) (ci := 9) (v := .ref a3) (C := RX12) (T := TX12) (N := 30) hx hb hts ifX12_seats_X12 hown hK hP 17 rfl rfl 21 (by decide) (hts (.fieldLink RX12 30 "HookPierModel" "seat" "[I") (List.mem_of_getElem? (i := 6) rfl)) (fun _ h9 => h9) rfl (zat zrX12_seats_1_ok 13 rfl) ?_
                        refine lv_iload_n hx hb (zat zrX12_seats_1_ok 14 rfl) rfl (lv_at hl 1 rfl) ?_
                        refine lv_iconst (v := (-1)) hx hb (zat zrX12_seats_1_ok 15 rfl) (by decide) ?_
                        obtain ⟨hg130, h⟩ := gA_of h
                        refine va_iast hx hb hK hP hD hS 15 14 rfl rfl hg130 (zat zrX12_seats_1_ok 16 rfl) (fun H locs hP hD hS => ?_)
                        obtain ⟨hP, hD⟩ := pd_mk (bX11 a2 uq kq q_q ([(a3, .inl (cB35, 5, .inl (upd v61_m_z.1 (v42_l2).toNatClampNeg (-1 : Int32)))), (a4, .inl (cB36, 5, .inl v61_m_z.2.1)), (a0, .inr (9, [g8, g9, g10, .ref a2, g11, g12, g13, g14, g15, g16, g17, g18, g19, g20, g21, g22, g23, g24, g25, g26, g27, .ref a3, .ref a4, .int v61_m_z.2.2, g28, g29, g30, g31, g32, g33]))])) hP hD
                        refine lv_aload_n hx hb (zat zrX12_seats_1_ok 17 rfl) rfl (lv_at hl 2 rfl) ?_
                        refine lv_iload_n hx hb (zat zrX12_seats_1_ok 18 rfl) rfl (lv_at hl 3 rfl) ?_
                        refine lv_iload_n hx hb (zat zrX12_seats_1_ok 19 rfl) rfl (lv_at hl 1 rfl) ?_
                        obtain ⟨o134, eo134, h⟩ := bd_of h
                        refine ck_i (wc := ([(a0, .inr (9, [g8, g9, g10, .ref a2, g11, g12, g13, g14, g15, g16, g17, g18, g19, g20, g21, g22, g23, g24, g25, g26, g27, .ref a3, .ref a4, .int v61_m_z.2.2, g28, g29, g30, g31, g32, g33]))])) (wr := (bX11 a2 uq kq q_q ([(a3, .inl (cB35, 5, .inl (upd v61_m_z.1 (v42_l2).toNatClampNeg (-1 : Int32)))), (a4, .inl (cB36, 5, .inl v61_m_z.2.1))]))) hP hD hK hS hA [17] [0, 1, 2, 3, 4, 5, 6, 7, 8, 9, 10, 11, 12, 13, 14, 15, 16] rfl rfl (by decide) (by decide) (by decide) (fun hPc hDc => (va_runV (As := [.int k1, .int v42_l2]) (rest := []) ⟨hx, hb, hml, hown, hts⟩ (kfX12_lastIn l dC dI a0 k1 v42_l2 (g8) (g9) (g10) (.ref a2) (g11) (g12) (g13) (g14) (g15) (g16) (g17) (g18) (g19) (g20) (g21) (g22) (g23) (g24) (g25) (g26) (g27) (.ref a3) (.ref a4) (.int v61_m_z.2.2) (g28) (g29) (g30) (g31) (g32) (g33) H.size o134 eo134) (cwV 2 hts gfX12_seats_1 rfl rfl rfl (by decide +kernel) ⟨(Nat.le_of_ble_eq_true rfl), (Nat.le_of_ble_eq_true rfl)⟩) (PV hPc (hK.sub (tys' := ([])) [] rfl) hDc hN 0 rfl rfl) rfl rfl hl.1 rfl (lv_room (Nat.le_of_ble_eq_true rfl)) (zat zrX12_seats_1_ok 20 rfl) ⟨(Nat.le_of_ble_eq_true rfl), (Nat.le_of_ble_eq_true rfl)⟩)) (fun r134 _ H locs hw hP hD _ hS => ?_)
                        obtain rfl := hw.symm
                        obtain ⟨hP, hD⟩ := pd_mk (bX11 a2 uq kq q_q ([(a3, .inl (cB35, 5, .inl (upd v61_m_z.1 (v42_l2).toNatClampNeg (-1 : Int32)))), (a4, .inl (cB36, 5, .inl v61_m_z.2.1)), (a0, .inr (9, [g8, g9, g10, .ref a2, g11, g12, g13, g14, g15, g16, g17, g18, g19, g20, g21, g22, g23, g24, g25, g26, g27, .ref a3, .ref a4, .int v61_m_z.2.2, g28, g29, g30, g31, g32, g33]))])) hP hD
                        refine lv_istore_n (lv' := [(2, .int o134), (3, .int o104), (0, .ref a0), (1, .int k1)]) hx hb (zat zrX12_seats_1_ok 21 rfl) rfl hl (by decide) rfl (fun ls hl => ?_)
                        refine lv_goto (tgt := 197) hx hb (zat zrX12_seats_1_ok 22 rfl) (by decide) ?_
                        exact J197 o134 ((upd v61_m_z.1 (v42_l2).toNatClampNeg (-1 : Int32)), v61_m_z.2) H _ ls h  hP hD hS (lv_sub hl [0, 2, 3] rfl)
                    refine lv_icmp_ge (tgt := 99) hx hb (zat zrX12_seats_0_ok 46 rfl) (by decide) (fun c74 => ?_) (fun c74 => ?_)
                    · have h := (if_pos c74).symm.trans h
                      exact J99  H _ ls h  hP hD hS (lv_sub hl [0, 1, 2] rfl)
                    · have h := (if_neg c74).symm.trans h
                      refine lv_aload_n hx hb (zat zrX12_seats_0_ok 47 rfl) rfl (lv_at hl 1 rfl) ?_
                      refine lv_iload_n hx hb (zat zrX12_seats_0_ok 48 rfl) rfl (lv_at hl 2 rfl) ?_
                      refine lv_iload_n hx hb (zat zrX12_seats_0_ok 49 rfl) rfl (lv_at hl 0 rfl) ?_
                      obtain ⟨o80, eo80, h⟩ := bd_of h
                      refine ck_i (wc := ((a0, .inr (9, [g8, g9, g10, .ref a2, g11, g12, g13, g14, g15, g16, g17, g18, g19, g20, g21, g22, g23, g24, g25, g26, g27, .ref a3, .ref a4, .int v61_m_z.2.2, g28, g29, g30, g31, g32, g33])) :: bX11 a2 uq kq q_q ([(a3, .inl (cB35, 5, .inl v61_m_z.1)), (a4, .inl (cB36, 5, .inl v61_m_z.2.1))]))) (wr := []) hP hD hK hS hA [17, 0, 1, 2, 3, 4, 5, 6, 7, 8, 9, 10, 11, 12, 13, 14, 15, 16] [] rfl rfl (by decide) (by decide) (by decide) (fun hPc hDc => (va_runV (As := [.int k1, .int v42_l2]) (rest := []) ⟨hx, hb, hml, hown, hts⟩ (kfX12_isSeat l dC dI a0 k1 v42_l2 a2 a3 a4 uq kq v61_m_z (g8) (g9) (g10) (g11) (g12) (g13) (g14) (g15) (g16) (g17) (g18) (g19) (g20) (g21) (g22) (g23) (g24) (g25) (g26) (g27) (g28) (g29) (g30) (g31) (g32) (g33) q_q cB35 cB36 H.size o80 eo80) (cwV 2 hts gfX12_seats_2 rfl rfl rfl (by decide +kernel) ⟨(Nat.le_of_ble_eq_true rfl), (Nat.le_of_ble_eq_true rfl)⟩) (PV hPc (hK.sub (tys' := (tX11 kq ((cB35, .int) :: (cB36, .int) :: []))) [0, 1, 2, 3, 4, 5, 6, 7, 8, 9, 10, 11, 12, 13, 14, 15] rfl) hDc hN 0 rfl rfl) rfl rfl hl.1 rfl (lv_room (Nat.le_of_ble_eq_true rfl)) (zat zrX12_seats_0_ok 50 rfl) ⟨(Nat.le_of_ble_eq_true rfl), (Nat.le_of_ble_eq_true rfl)⟩)) (fun r80 _ H locs hw hP hD _ hS => ?_)
                      obtain ⟨hw, br80⟩ := hw
                      obtain rfl := hw.symm
                      obtain ⟨hP, hD⟩ := pd_mk ((a0, .inr (9, [g8, g9, g10, .ref a2, g11, g12, g13, g14, g15, g16, g17, g18, g19, g20, g21, g22, g23, g24, g25, g26, g27, .ref a3, .ref a4, .int v61_m_z.2.2, g28, g29, g30, g31, g32, g33])) :: bX11 a2 uq kq q_q ([(a3, .inl (cB35, 5, .inl v61_m_z.1)), (a4, .inl (cB36, 5, .inl v61_m_z.2.1))])) hP hD
                      refine lv_if_ne (tgt := 99) hx hb (zat zrX12_seats_0_ok 51 rfl) (by decide) (fun c83 => ?_) (fun c83 => ?_)
                      · have h := (if_neg c83).symm.trans h
                        exact J99  H _ ls h  (hP.sub (ws' := (bX11 a2 uq kq q_q ([(a3, .inl (cB35, 5, .inl v61_m_z.1)), (a4, .inl (cB36, 5, .inl v61_m_z.2.1)), (a0, .inr (9, [g8, g9, g10, .ref a2, g11, g12, g13, g14, g15, g16, g17, g18, g19, g20, g21, g22, g23, g24, g25, g26, g27, .ref a3, .ref a4, .int v61_m_z.2.2, g28, g29, g30, g31, g32, g33]))]))) [1, 2, 3, 4, 5, 6, 7, 8, 9, 10, 11, 12, 13, 14, 15, 16, 17, 0] rfl) (hD.sub (ws' := (bX11 a2 uq kq q_q ([(a3, .inl (cB35, 5, .inl v61_m_z.1)), (a4, .inl (cB36, 5, .inl v61_m_z.2.1)), (a0, .inr (9, [g8, g9, g10, .ref a2, g11, g12, g13, g14, g15, g16, g17, g18, g19, g20, g21, g22, g23, g24, g25, g26, g27, .ref a3, .ref a4, .int v61_m_z.2.2, g28, g29, g30, g31, g32, g33]))]))) [1, 2, 3, 4, 5, 6, 7, 8, 9, 10, 11, 12, 13, 14, 15, 16, 17, 0] (by decide) rfl) hS (lv_sub hl [0, 1, 2] rfl)
                      · have h := (if_pos c83).symm.trans h
                        refine lv_aload_n hx hb (zat zrX12_seats_0_ok 52 rfl) rfl (lv_at hl 1 rfl) ?_
                        refine va_get (D := (dC, dI)) (ci := 9) (v := .ref a3) (C := RX12) (T := TX12) (N := 30) hx hb hts ifX12_seats_X12 hown hK hP 0 rfl rfl 21 (by decide) (hts (.fieldLink RX12 30 "HookPierModel" "seat" "[I") (List.mem_of_getElem? (i := 6) rfl)) (fun _ h9 => h9) rfl (zat zrX12_seats_0_ok 53 rfl) ?_
                        refine lv_iload_n hx hb (zat zrX12_seats_0_ok 54 rfl) rfl (lv_at hl 0 rfl) ?_
                        refine lv_dup2_11 hx hb (zat zrX12_seats_0_ok 55 rfl) rfl rfl ?_
                        obtain ⟨hg92, h⟩ := gA_of h
                        refine va_iald hx hb hK hP 16 14 rfl rfl hg92 (zat zrX12_seats_0_ok 56 rfl) ?_
                        refine lv_iconst (v := 1) hx hb (zat zrX12_seats_0_ok 57 rfl) (by decide) ?_
                        refine lv_iadd hx hb (zat zrX12_seats_0_ok 58 rfl) ?_
                        obtain ⟨hg95, h⟩ := gA_of h
                        refine va_iast hx hb hK hP hD hS 16 14 rfl rfl hg95 (zat zrX12_seats_0_ok 59 rfl) (fun H locs hP hD hS => ?_)
                        obtain ⟨hP, hD⟩ := pd_mk ((a0, .inr (9, [g8, g9, g10, .ref a2, g11, g12, g13, g14, g15, g16, g17, g18, g19, g20, g21, g22, g23, g24, g25, g26, g27, .ref a3, .ref a4, .int v61_m_z.2.2, g28, g29, g30, g31, g32, g33])) :: bX11 a2 uq kq q_q ([(a3, .inl (cB35, 5, .inl (upd v61_m_z.1 (v42_l2).toNatClampNeg ((v61_m_z.1 (v42_l2).toNatClampNeg) + (1 : Int32))))), (a4, .inl (cB36, 5, .inl v61_m_z.2.1))])) hP hD
                        refine lv_goto (tgt := 61) hx hb (zat zrX12_seats_0_ok 60 rfl) (by decide) ?_
                        exact ih61 ((upd v61_m_z.1 (v42_l2).toNatClampNeg ((v61_m_z.1 (v42_l2).toNatClampNeg) + (1 : Int32))), v61_m_z.2) H _ ls h  (hP.sub (ws' := (bX11 a2 uq kq q_q ([(a3, .inl (cB35, 5, .inl (upd v61_m_z.1 (v42_l2).toNatClampNeg ((v61_m_z.1 (v42_l2).toNatClampNeg) + (1 : Int32))))), (a4, .inl (cB36, 5, .inl v61_m_z.2.1)), (a0, .inr (9, [g8, g9, g10, .ref a2, g11, g12, g13, g14, g15, g16, g17, g18, g19, g20, g21, g22, g23, g24, g25, g26, g27, .ref a3, .ref a4, .int v61_m_z.2.2, g28, g29, g30, g31, g32, g33]))]))) [1, 2, 3, 4, 5, 6, 7, 8, 9, 10, 11, 12, 13, 14, 15, 16, 17, 0] rfl) (hD.sub (ws' := (bX11 a2 uq kq q_q ([(a3, .inl (cB35, 5, .inl (upd v61_m_z.1 (v42_l2).toNatClampNeg ((v61_m_z.1 (v42_l2).toNatClampNeg) + (1 : Int32))))), (a4, .inl (cB36, 5, .inl v61_m_z.2.1)), (a0, .inr (9, [g8, g9, g10, .ref a2, g11, g12, g13, g14, g15, g16, g17, g18, g19, g20, g21, g22, g23, g24, g25, g26, g27, .ref a3, .ref a4, .int v61_m_z.2.2, g28, g29, g30, g31, g32, g33]))]))) [1, 2, 3, 4, 5, 6, 7, 8, 9, 10, 11, 12, 13, 14, 15, 16, 17, 0] (by decide) rfl) hS (lv_sub hl [0, 1, 2] rfl)
                exact L61 FU ((upd v42_m_z.1 (v42_l2).toNatClampNeg ((v42_m_z.1 (v42_l2).toNatClampNeg) + (1 : Int32))), v42_m_z.2) H _ ls h  hP hD hS (lv_sub hl [0, 1, 2] rfl)
        refine lv_icmp_ne (tgt := 42) hx hb (zat zrX12_seats_0_ok 22 rfl) (by decide) (fun c34 => ?_) (fun c34 => ?_)
        · have h := (if_neg c34).symm.trans h
          exact L42 FU v7_m_z o28 H _ ls h  hP hD hS (lv_sub hl [0, 1, 2] rfl)
        · have h := (if_pos c34).symm.trans h
          refine lv_aload_n hx hb (zat zrX12_seats_0_ok 23 rfl) rfl (lv_at hl 1 rfl) ?_
          refine lv_iconst (v := 1) hx hb (zat zrX12_seats_0_ok 24 rfl) (by decide) ?_
          refine va_put (D := (dC, dI)) (ci := 9) (v := .int 1) (ty := .int) (C := RX12) (T := TX12) (N := 30) hx hb hts ifX12_seats_X12 tyX12 tyX12_ok nmX12 hown hK hP hD hS 17 rfl rfl 23 (by decide) (hts (.fieldLink RX12 393 "HookPierModel" "seatings" "I") (List.mem_of_getElem? (i := 1) rfl)) (fun _ h9 => h9) rfl (by decide +kernel) rfl rfl (Nat.le_of_ble_eq_true rfl) (zat zrX12_seats_0_ok 25 rfl) (fun H locs hP hD hS => ?_)
          obtain ⟨hP, hD⟩ := pd_mk (bX11 a2 uq kq q_q ([(a3, .inl (cB35, 5, .inl v7_m_z.1)), (a4, .inl (cB36, 5, .inl v7_m_z.2.1)), (a0, .inr (9, [g8, g9, g10, .ref a2, g11, g12, g13, g14, g15, g16, g17, g18, g19, g20, g21, g22, g23, g24, g25, g26, g27, .ref a3, .ref a4, .int 1, g28, g29, g30, g31, g32, g33]))])) hP hD
          exact L42 FU (v7_m_z.1, v7_m_z.2.1, (1 : Int32)) o28 H _ ls h  hP hD hS (lv_sub hl [0, 1, 2] rfl)
      · have h := (if_neg c9).symm.trans h
        refine lv_aload_n hx hb (zat zrX12_seats_0_ok 8 rfl) rfl (lv_at hl 1 rfl) ?_
        refine va_get (D := (dC, dI)) (ci := 9) (v := .ref a3) (C := RX12) (T := TX12) (N := 30) hx hb hts ifX12_seats_X12 hown hK hP 0 rfl rfl 21 (by decide) (hts (.fieldLink RX12 30 "HookPierModel" "seat" "[I") (List.mem_of_getElem? (i := 6) rfl)) (fun _ h9 => h9) rfl (zat zrX12_seats_0_ok 9 rfl) ?_
        refine lv_iload_n hx hb (zat zrX12_seats_0_ok 10 rfl) rfl (lv_at hl 0 rfl) ?_
        refine lv_iconst (v := (-1)) hx hb (zat zrX12_seats_0_ok 11 rfl) (by decide) ?_
        obtain ⟨hg18, h⟩ := gA_of h
        refine va_iast hx hb hK hP hD hS 16 14 rfl rfl hg18 (zat zrX12_seats_0_ok 12 rfl) (fun H locs hP hD hS => ?_)
        obtain ⟨hP, hD⟩ := pd_mk ((a0, .inr (9, [g8, g9, g10, .ref a2, g11, g12, g13, g14, g15, g16, g17, g18, g19, g20, g21, g22, g23, g24, g25, g26, g27, .ref a3, .ref a4, .int v7_m_z.2.2, g28, g29, g30, g31, g32, g33])) :: bX11 a2 uq kq q_q ([(a3, .inl (cB35, 5, .inl (upd v7_m_z.1 (v7_l2).toNatClampNeg (-1 : Int32)))), (a4, .inl (cB36, 5, .inl v7_m_z.2.1))])) hP hD
        refine lv_iinc (v := (v7_l2 + (1 : Int32))) (lv' := [(2, .int (v7_l2 + (1 : Int32))), (0, .ref a0), (1, .int k1)]) hx hb (zat zrX12_seats_0_ok 13 rfl) hl (k := 0) rfl rfl (by decide) rfl (fun ls hl => ?_)
        refine lv_goto (tgt := 7) hx hb (zat zrX12_seats_0_ok 14 rfl) (by decide) ?_
        exact ih7 (v7_l2 + (1 : Int32)) ((upd v7_m_z.1 (v7_l2).toNatClampNeg (-1 : Int32)), v7_m_z.2) H _ ls h  hP hD hS (lv_sub hl [0, 1, 2] rfl)
  exact L7 FU (0 : Int32) (m_z.1, m_z.2.1, (0 : Int32)) H _ ls h  hP hD hS (lv_sub hl [0, 1, 2] rfl)
noncomputable def zrX12_seatings_0 : List ZR := zc 0 true (.aload_n 0) 1 (zc 1 true (.iconst 0) 1 (zc 2 true (.putfield 36) 3 (zc 5 true (.aload_n 0) 1 (zc 6 true (.getfield 299) 3 (zc 9 true (.ifnonnull 9) 3 (zc 12 false (.nop) 6 (zc 18 true (.aload_n 0) 1 (zc 19 true (.getfield 299) 3 (zc 22 true (.getfield 224) 3 (zc 25 true (.ifCond .ne 10) 3 (zc 28 true (.aload_n 0) 1 (zc 29 true (.bipush 6) 2 (zc 31 true (.invokevirtual 42) 3 (zc 34 true (.ireturn) 1 (zc 35 true (.aload_n 0) 1 (zc 36 true (.aload_n 0) 1 (zc 37 true (.invokevirtual 405) 3 (zc 40 true (.invokevirtual 408) 3 (zc 43 true (.aload_n 0) 1 (zc 44 true (.aload_n 0) 1 (zc 45 true (.getfield 393) 3 (zc 48 true (.invokevirtual 46) 3 (zc 51 true (.ireturn) 1 ([]))))))))))))))))))))))))
theorem zrX12_seatings_0_ok : zck 0 ((zby cX12_seatings).drop 0) zrX12_seatings_0 = true := by decide +kernel
def vfX12_seatings : List Cond := List.cons (.code yX12_seatings cX12_seatings 1 (some .int)) (apW [.fieldLink RX12 36 "HookPierModel" "thrown" "I", .fieldLink RX12 299 "HookPierModel" "pier" "LHookPierModel$Pier;", .methodLink RX12 405 yX12_allAskers, .instanceMethod yX12_allAskers, .selects RX12 yX12_allAskers yX12_allAskers, .initialized RX12, .methodLink RX12 408 yX12_seats, .instanceMethod yX12_seats, .selects RX12 yX12_seats yX12_seats, .fieldLink RX12 393 "HookPierModel" "seatings" "I", .methodLink RX12 46 yX12_good, .instanceMethod yX12_good, .selects RX12 yX12_good yX12_good, .methodLink RX12 42 yX12_refused, .instanceMethod yX12_refused, .selects RX12 yX12_refused yX12_refused] (apW wsX120 (apW wsX110 (apW vfX12_allAskers (apW vfX12_seats (apW vfX12_good (vfX12_refused)))))))
theorem ifX12_seatings_X12 : ∀ w ∈ wsX120, w ∈ vfX12_seatings := fun _ h => (List.mem_cons_of_mem _ (List.mem_append_right _ (List.mem_append_left _ h)))
theorem ifX12_seatings_X11 : ∀ w ∈ wsX110, w ∈ vfX12_seatings := fun _ h => (List.mem_cons_of_mem _ (List.mem_append_right _ (List.mem_append_right _ (List.mem_append_left _ h))))
theorem qfX12_seatings : Good vfX12_seatings := gd_cons (by decide +kernel) (gd_app (gd_dec (by decide +kernel) : Good [.fieldLink RX12 36 "HookPierModel" "thrown" "I", .fieldLink RX12 299 "HookPierModel" "pier" "LHookPierModel$Pier;", .methodLink RX12 405 yX12_allAskers, .instanceMethod yX12_allAskers, .selects RX12 yX12_allAskers yX12_allAskers, .initialized RX12, .methodLink RX12 408 yX12_seats, .instanceMethod yX12_seats, .selects RX12 yX12_seats yX12_seats, .fieldLink RX12 393 "HookPierModel" "seatings" "I", .methodLink RX12 46 yX12_good, .instanceMethod yX12_good, .selects RX12 yX12_good yX12_good, .methodLink RX12 42 yX12_refused, .instanceMethod yX12_refused, .selects RX12 yX12_refused yX12_refused]) (gd_app qsX12 (gd_app qsX11 (gd_app qfX12_allAskers (gd_app qfX12_seats (gd_app qfX12_good qfX12_refused))))))
theorem gfX12_seatings_0 : GoodIn vfX12_seatings (wsV RX12 405 RX12 yX12_allAskers vfX12_allAskers) := goodIn_app (goodIn_r [.methodLink RX12 405 yX12_allAskers, .instanceMethod yX12_allAskers, .selects RX12 yX12_allAskers yX12_allAskers, .initialized RX12] [3, 4, 5, 6] rfl (by decide +kernel)) (goodIn_m (fun _ h => (List.mem_cons_of_mem _ (List.mem_append_right _ (List.mem_append_right _ (List.mem_append_right _ (List.mem_append_left _ h)))))) qfX12_allAskers)
theorem gfX12_seatings_1 : GoodIn vfX12_seatings (wsV RX12 408 RX12 yX12_seats vfX12_seats) := goodIn_app (goodIn_r [.methodLink RX12 408 yX12_seats, .instanceMethod yX12_seats, .selects RX12 yX12_seats yX12_seats, .initialized RX12] [7, 8, 9, 6] rfl (by decide +kernel)) (goodIn_m (fun _ h => (List.mem_cons_of_mem _ (List.mem_append_right _ (List.mem_append_right _ (List.mem_append_right _ (List.mem_append_right _ (List.mem_append_left _ h))))))) qfX12_seats)
theorem gfX12_seatings_2 : GoodIn vfX12_seatings (wsV RX12 46 RX12 yX12_good vfX12_good) := goodIn_app (goodIn_r [.methodLink RX12 46 yX12_good, .instanceMethod yX12_good, .selects RX12 yX12_good yX12_good, .initialized RX12] [11, 12, 13, 6] rfl (by decide +kernel)) (goodIn_m (fun _ h => (List.mem_cons_of_mem _ (List.mem_append_right _ (List.mem_append_right _ (List.mem_append_right _ (List.mem_append_right _ (List.mem_append_right _ (List.mem_append_left _ h)))))))) qfX12_good)
theorem gfX12_seatings_3 : GoodIn vfX12_seatings (wsV RX12 42 RX12 yX12_refused vfX12_refused) := goodIn_app (goodIn_r [.methodLink RX12 42 yX12_refused, .instanceMethod yX12_refused, .selects RX12 yX12_refused yX12_refused, .initialized RX12] [14, 15, 16, 6] rfl (by decide +kernel)) (goodIn_m (fun _ h => (List.mem_cons_of_mem _ (List.mem_append_right _ (List.mem_append_right _ (List.mem_append_right _ (List.mem_append_right _ (List.mem_append_right _ (List.mem_append_right _ h)))))))) qfX12_refused)
set_option maxHeartbeats 2000000 in
set_option maxRecDepth 100000 in
theorem kfX12_seatings (l : Launch) (dC : Nat → ClassId) (dI : Nat → Nat → Nat) (a0 : Nat) (a1 : Nat) (a2 : Nat) (a3 : Nat) (uq : Nat → Nat) (kq : Nat → ClassId) (m_t : TX12_t) (m_z : TX12_z) (g8 : Value) (g9 : Value) (g10 : Value) (g11 : Value) (g12 : Value) (g13 : Value) (g14 : Value) (g15 : Value) (g16 : Value) (g17 : Value) (g18 : Value) (g19 : Value) (g20 : Value) (g21 : Value) (g22 : Value) (g23 : Value) (g24 : Value) (g25 : Value) (g26 : Value) (g27 : Value) (g28 : Value) (g29 : Value) (g30 : Value) (q_q : TX11_q) (cB32 : ClassId) (cB33 : ClassId) (sz : Nat) (out : (Int32 × TX12_t × TX12_z)) (h : f_X12_seatings m_t m_z q_q = some out) : KCi l yX12_seatings vfX12_seatings ({ frames := 4, cells := 0, slots := 0, locals := 92 }) (dC, dI) [.ref a0] sz ((a0, .inr (9, [.int m_t.1, .int m_t.2.1, .int m_t.2.2, .ref a1, g8, g9, g10, g11, g12, g13, g14, g15, g16, g17, g18, g19, g20, g21, g22, g23, g24, .ref a2, .ref a3, .int m_z.2.2, g25, g26, g27, g28, g29, g30])) :: bX11 a1 uq kq q_q ([(a2, .inl (cB32, 5, .inl m_z.1)), (a3, .inl (cB33, 5, .inl m_z.2.1))])) (tX11 kq ((cB32, .int) :: (cB33, .int) :: [])) (fun (r : Int32) _ => r = out.1) ((a0, .inr (9, [.int out.2.1.1, .int out.2.1.2.1, .int out.2.1.2.2, .ref a1, g8, g9, g10, g11, g12, g13, g14, g15, g16, g17, g18, g19, g20, g21, g22, g23, g24, .ref a2, .ref a3, .int out.2.2.2.2, g25, g26, g27, g28, g29, g30])) :: bX11 a1 uq kq q_q ([(a2, .inl (cB32, 5, .inl out.2.2.1)), (a3, .inl (cB33, 5, .inl out.2.2.2.1))])) 0 0 := by
  refine Met.ofW (cc := cX12_seatings) (maxL := 1) (ret := (some .int)) (by decide) rfl ?_
  intro p e s m args below meth c s₁ B0 hml hv
  obtain ⟨rfl, hsz, hP, hK, hD0, hN⟩ := hv
  have hx := B0.exec
  have hb := B0.bytes
  have hr := B0.returns
  have hts := atoms_spec (ws := vfX12_seatings) B0.pre
  have hown : s.vm.findClass RX12 = some m.cls := findClass_of_methodNamed B0.named
  have hlocks := B0.notSynchronized
  subst hsz
  have hD := hD0.self (sz := s.heap.size)
  generalize hAe : va_A ((a0, .inr (9, [.int m_t.1, .int m_t.2.1, .int m_t.2.2, .ref a1, g8, g9, g10, g11, g12, g13, g14, g15, g16, g17, g18, g19, g20, g21, g22, g23, g24, .ref a2, .ref a3, .int m_z.2.2, g25, g26, g27, g28, g29, g30])) :: bX11 a1 uq kq q_q ([(a2, .inl (cB32, 5, .inl m_z.1)), (a3, .inl (cB33, 5, .inl m_z.2.1))])) s.heap.size = A at hD ⊢
  have hA : ∀ q : Nat, s.heap.size ≤ q → A q := fun q h => by rw [← hAe]; exact Or.inr h
  have hS : va_S A s.heap s.heap [] := va_S.rf
  have hP : va_P (dC, dI) vwCl ((a0, .inr (9, [.int m_t.1, .int m_t.2.1, .int m_t.2.2, .ref a1, g8, g9, g10, g11, g12, g13, g14, g15, g16, g17, g18, g19, g20, g21, g22, g23, g24, .ref a2, .ref a3, .int m_z.2.2, g25, g26, g27, g28, g29, g30])) :: bX11 a1 uq kq q_q ([(a2, .inl (cB32, 5, .inl m_z.1)), (a3, .inl (cB33, 5, .inl m_z.2.1))])) s.heap := hP
  have hl := lv_entry ([.ref a0]) (n := 1) (Nat.le_of_ble_eq_true rfl)
  rw [lg_entry_eq]
  generalize (lg_sl ([.ref a0]) ++ List.replicate (1 - (lg_sl ([.ref a0])).length) Slot.unset).toArray = ls at hl ⊢
  have hl : lv_has ls 1 [(0, .ref a0)] := hl
  refine W_q (fun QQ hQQ => ?_)
  rw [f_X12_seatings] at h
  refine lv_aload_n hx hb (zat zrX12_seatings_0_ok 0 rfl) rfl (lv_at hl 0 rfl) ?_
  refine lv_iconst (v := 0) hx hb (zat zrX12_seatings_0_ok 1 rfl) (by decide) ?_
  refine va_put (D := (dC, dI)) (ci := 9) (v := .int 0) (ty := .int) (C := RX12) (T := TX12) (N := 30) hx hb hts ifX12_seatings_X12 tyX12 tyX12_ok nmX12 hown hK hP hD hS 0 rfl rfl 0 (by decide) (hts (.fieldLink RX12 36 "HookPierModel" "thrown" "I") (List.mem_of_getElem? (i := 1) rfl)) (fun _ h9 => h9) rfl (by decide +kernel) rfl rfl (Nat.le_of_ble_eq_true rfl) (zat zrX12_seatings_0_ok 2 rfl) (fun H locs hP hD hS => ?_)
  obtain ⟨hP, hD⟩ := pd_mk ((a0, .inr (9, [.int 0, .int m_t.2.1, .int m_t.2.2, .ref a1, g8, g9, g10, g11, g12, g13, g14, g15, g16, g17, g18, g19, g20, g21, g22, g23, g24, .ref a2, .ref a3, .int m_z.2.2, g25, g26, g27, g28, g29, g30])) :: bX11 a1 uq kq q_q ([(a2, .inl (cB32, 5, .inl m_z.1)), (a3, .inl (cB33, 5, .inl m_z.2.1))])) hP hD
  refine lv_aload_n hx hb (zat zrX12_seatings_0_ok 3 rfl) rfl (lv_at hl 0 rfl) ?_
  refine va_get (D := (dC, dI)) (ci := 9) (v := .ref a1) (C := RX12) (T := TX12) (N := 30) hx hb hts ifX12_seatings_X12 hown hK hP 0 rfl rfl 3 (by decide) (hts (.fieldLink RX12 299 "HookPierModel" "pier" "LHookPierModel$Pier;") (List.mem_of_getElem? (i := 2) rfl)) (fun _ h9 => h9) rfl (zat zrX12_seatings_0_ok 4 rfl) ?_
  refine lv_ifnonnull (tgt := 18) hx hb (zat zrX12_seatings_0_ok 5 rfl) (by decide) ?_
  refine lv_aload_n hx hb (zat zrX12_seatings_0_ok 7 rfl) rfl (lv_at hl 0 rfl) ?_
  refine va_get (D := (dC, dI)) (ci := 9) (v := .ref a1) (C := RX12) (T := TX12) (N := 30) hx hb hts ifX12_seatings_X12 hown hK hP 0 rfl rfl 3 (by decide) (hts (.fieldLink RX12 299 "HookPierModel" "pier" "LHookPierModel$Pier;") (List.mem_of_getElem? (i := 2) rfl)) (fun _ h9 => h9) rfl (zat zrX12_seatings_0_ok 8 rfl) ?_
  refine va_getN (D := (dC, dI)) (ci := 8) (v := .int q_q.2.2.2.2.2.1) (C := RX11) (T := TX11) (N := 24) hx hb hts ifX12_seatings_X11 hown hK hP 1 rfl rfl 5 (by decide) (va_Nw.use rfl (hN.1 (.fieldLinkNest RX12 224 "HookPierModel$Pier" "askers" "I" "HookPierModel") (List.mem_of_getElem? (i := 27) rfl))) (fun _ h9 => h9) rfl (zat zrX12_seatings_0_ok 9 rfl) ?_
  refine lv_if_ne (tgt := 35) hx hb (zat zrX12_seatings_0_ok 10 rfl) (by decide) (fun c25 => ?_) (fun c25 => ?_)
  · have h := (if_neg c25).symm.trans h
    refine lv_aload_n hx hb (zat zrX12_seatings_0_ok 15 rfl) rfl (lv_at hl 0 rfl) ?_
    refine lv_aload_n hx hb (zat zrX12_seatings_0_ok 16 rfl) rfl (lv_at hl 0 rfl) ?_
    obtain ⟨o37, eo37⟩ : ∃ o, o = f_X12_allAskers q_q := ⟨_, rfl⟩
    have h := nm_of h o37 eo37
    refine ck_i (wc := ((a0, .inr (9, [.int 0, .int m_t.2.1, .int m_t.2.2, .ref a1, g8, g9, g10, g11, g12, g13, g14, g15, g16, g17, g18, g19, g20, g21, g22, g23, g24, .ref a2, .ref a3, .int m_z.2.2, g25, g26, g27, g28, g29, g30])) :: bX11 a1 uq kq q_q [])) (wr := ([(a2, .inl (cB32, 5, .inl m_z.1)), (a3, .inl (cB33, 5, .inl m_z.2.1))])) hP hD hK hS hA [0, 1, 2, 3, 4, 5, 6, 7, 8, 9, 10, 11, 12, 13, 14, 15] [16, 17] rfl rfl (by decide) (by decide) (by decide) (fun hPc hDc => (va_runV (As := []) (rest := [.ref a0]) ⟨hx, hb, hml, hown, hts⟩ (kfX12_allAskers l dC dI a0 a1 uq kq (.int 0) (.int m_t.2.1) (.int m_t.2.2) (g8) (g9) (g10) (g11) (g12) (g13) (g14) (g15) (g16) (g17) (g18) (g19) (g20) (g21) (g22) (g23) (g24) (.ref a2) (.ref a3) (.int m_z.2.2) (g25) (g26) (g27) (g28) (g29) (g30) q_q H.size o37 eo37.symm) (cwV 0 hts gfX12_seatings_0 rfl rfl rfl (by decide +kernel) ⟨(Nat.le_of_ble_eq_true rfl), (Nat.le_of_ble_eq_true rfl)⟩) (PV hPc (hK.sub (tys' := (tX11 kq ([]))) [0, 1, 2, 3, 4, 5, 6, 7, 8, 9, 10, 11, 12, 13] rfl) hDc hN 0 rfl rfl) rfl rfl hl.1 rfl (lv_room (Nat.le_of_ble_eq_true rfl)) (zat zrX12_seatings_0_ok 17 rfl) ⟨(Nat.le_of_ble_eq_true rfl), (Nat.le_of_ble_eq_true rfl)⟩)) (fun r37 _ H locs hw hP hD _ hS => ?_)
    obtain rfl := hw.symm
    obtain ⟨hP, hD⟩ := pd_mk ((a2, .inl (cB32, 5, .inl m_z.1)) :: (a3, .inl (cB33, 5, .inl m_z.2.1)) :: (a0, .inr (9, [.int 0, .int m_t.2.1, .int m_t.2.2, .ref a1, g8, g9, g10, g11, g12, g13, g14, g15, g16, g17, g18, g19, g20, g21, g22, g23, g24, .ref a2, .ref a3, .int m_z.2.2, g25, g26, g27, g28, g29, g30])) :: bX11 a1 uq kq q_q []) hP hD
    obtain ⟨o40, eo40, h⟩ := bd_of h
    refine ck_v (wc := ((a0, .inr (9, [.int 0, .int m_t.2.1, .int m_t.2.2, .ref a1, g8, g9, g10, g11, g12, g13, g14, g15, g16, g17, g18, g19, g20, g21, g22, g23, g24, .ref a2, .ref a3, .int m_z.2.2, g25, g26, g27, g28, g29, g30])) :: bX11 a1 uq kq q_q ([(a2, .inl (cB32, 5, .inl m_z.1)), (a3, .inl (cB33, 5, .inl m_z.2.1))]))) (wr := []) hP hD hK hS hA [2, 3, 4, 5, 6, 7, 8, 9, 10, 11, 12, 13, 14, 15, 16, 17, 0, 1] [] rfl rfl (by decide) (by decide) (by decide) (fun hPc hDc => (va_runV (As := [.int o37]) (rest := []) ⟨hx, hb, hml, hown, hts⟩ (kfX12_seats l dC dI a0 o37 a1 a2 a3 uq kq m_z (.int 0) (.int m_t.2.1) (.int m_t.2.2) (g8) (g9) (g10) (g11) (g12) (g13) (g14) (g15) (g16) (g17) (g18) (g19) (g20) (g21) (g22) (g23) (g24) (g25) (g26) (g27) (g28) (g29) (g30) q_q cB32 cB33 H.size o40 eo40) (cwV 1 hts gfX12_seatings_1 rfl rfl rfl (by decide +kernel) ⟨(Nat.le_of_ble_eq_true rfl), (Nat.le_of_ble_eq_true rfl)⟩) (PV hPc (hK.sub (tys' := (tX11 kq ((cB32, .int) :: (cB33, .int) :: []))) [0, 1, 2, 3, 4, 5, 6, 7, 8, 9, 10, 11, 12, 13, 14, 15] rfl) hDc hN 0 rfl rfl) rfl rfl hl.1 rfl (lv_room (Nat.le_of_ble_eq_true rfl)) (zat zrX12_seatings_0_ok 18 rfl) ⟨(Nat.le_of_ble_eq_true rfl), (Nat.le_of_ble_eq_true rfl)⟩)) (fun _ H locs hw hP hD _ hS => ?_)
    obtain ⟨hP, hD⟩ := pd_mk ((a0, .inr (9, [.int 0, .int m_t.2.1, .int m_t.2.2, .ref a1, g8, g9, g10, g11, g12, g13, g14, g15, g16, g17, g18, g19, g20, g21, g22, g23, g24, .ref a2, .ref a3, .int o40.2.2, g25, g26, g27, g28, g29, g30])) :: bX11 a1 uq kq q_q ([(a2, .inl (cB32, 5, .inl o40.1)), (a3, .inl (cB33, 5, .inl o40.2.1))])) hP hD
    refine lv_aload_n hx hb (zat zrX12_seatings_0_ok 19 rfl) rfl (lv_at hl 0 rfl) ?_
    refine lv_aload_n hx hb (zat zrX12_seatings_0_ok 20 rfl) rfl (lv_at hl 0 rfl) ?_
    refine va_get (D := (dC, dI)) (ci := 9) (v := .int o40.2.2) (C := RX12) (T := TX12) (N := 30) hx hb hts ifX12_seatings_X12 hown hK hP 0 rfl rfl 23 (by decide) (hts (.fieldLink RX12 393 "HookPierModel" "seatings" "I") (List.mem_of_getElem? (i := 10) rfl)) (fun _ h9 => h9) rfl (zat zrX12_seatings_0_ok 21 rfl) ?_
    obtain ⟨o48, eo48⟩ : ∃ o, o = f_X12_good o40.2.2 ((0 : Int32), m_t.2) := ⟨_, rfl⟩
    have h := nm_of h o48 eo48
    refine ck_i (wc := ([(a0, .inr (9, [.int 0, .int m_t.2.1, .int m_t.2.2, .ref a1, g8, g9, g10, g11, g12, g13, g14, g15, g16, g17, g18, g19, g20, g21, g22, g23, g24, .ref a2, .ref a3, .int o40.2.2, g25, g26, g27, g28, g29, g30]))])) (wr := (bX11 a1 uq kq q_q ([(a2, .inl (cB32, 5, .inl o40.1)), (a3, .inl (cB33, 5, .inl o40.2.1))]))) hP hD hK hS hA [0] [1, 2, 3, 4, 5, 6, 7, 8, 9, 10, 11, 12, 13, 14, 15, 16, 17] rfl rfl (by decide) (by decide) (by decide) (fun hPc hDc => (va_runV (As := [.int o40.2.2]) (rest := []) ⟨hx, hb, hml, hown, hts⟩ (kfX12_good l dC dI a0 o40.2.2 ((0 : Int32), m_t.2) (.ref a1) (g8) (g9) (g10) (g11) (g12) (g13) (g14) (g15) (g16) (g17) (g18) (g19) (g20) (g21) (g22) (g23) (g24) (.ref a2) (.ref a3) (.int o40.2.2) (g25) (g26) (g27) (g28) (g29) (g30) H.size o48 eo48.symm) (cwV 1 hts gfX12_seatings_2 rfl rfl rfl (by decide +kernel) ⟨(Nat.le_of_ble_eq_true rfl), (Nat.le_of_ble_eq_true rfl)⟩) (PV hPc (hK.sub (tys' := ([])) [] rfl) hDc hN 0 rfl rfl) rfl rfl hl.1 rfl (lv_room (Nat.le_of_ble_eq_true rfl)) (zat zrX12_seatings_0_ok 22 rfl) ⟨(Nat.le_of_ble_eq_true rfl), (Nat.le_of_ble_eq_true rfl)⟩)) (fun r48 _ H locs hw hP hD _ hS => ?_)
    obtain rfl := hw
    obtain ⟨hP, hD⟩ := pd_mk (bX11 a1 uq kq q_q ([(a2, .inl (cB32, 5, .inl o40.1)), (a3, .inl (cB33, 5, .inl o40.2.1)), (a0, .inr (9, [.int o48.2.1, .int o48.2.2.1, .int o48.2.2.2, .ref a1, g8, g9, g10, g11, g12, g13, g14, g15, g16, g17, g18, g19, g20, g21, g22, g23, g24, .ref a2, .ref a3, .int o40.2.2, g25, g26, g27, g28, g29, g30]))])) hP hD
    obtain rfl := Option.some.inj h
    obtain ⟨hP9, hD9⟩ := pd_sub ((a0, .inr (9, [.int o48.2.1, .int o48.2.2.1, .int o48.2.2.2, .ref a1, g8, g9, g10, g11, g12, g13, g14, g15, g16, g17, g18, g19, g20, g21, g22, g23, g24, .ref a2, .ref a3, .int o40.2.2, g25, g26, g27, g28, g29, g30])) :: bX11 a1 uq kq q_q ([(a2, .inl (cB32, 5, .inl o40.1)), (a3, .inl (cB33, 5, .inl o40.2.1))])) [17, 0, 1, 2, 3, 4, 5, 6, 7, 8, 9, 10, 11, 12, 13, 14, 15, 16] hP hD (by decide) rfl
    have hK9 := hK.sub (tys' := []) [] rfl
    rw [hQQ]
    exact W.iret (v := o48.1) hx hb hr (fun t ht hW => ⟨⟨o48.1, (), rfl, rfl, by rw [ht]; exact hP9, va_K.moved hW.alike hK9, hD9⟩, hS.F ht⟩) hS.2.2 (zat zrX12_seatings_0_ok 23 rfl)
  · have h := (if_pos c25).symm.trans h
    refine lv_aload_n hx hb (zat zrX12_seatings_0_ok 11 rfl) rfl (lv_at hl 0 rfl) ?_
    refine lv_bipush (v := 6) hx hb (zat zrX12_seatings_0_ok 12 rfl) (by decide) ?_
    obtain ⟨o31, eo31⟩ : ∃ o, o = f_X12_refused (6 : Int32) ((0 : Int32), m_t.2) := ⟨_, rfl⟩
    have h := nm_of h o31 eo31
    refine ck_i (wc := ([(a0, .inr (9, [.int 0, .int m_t.2.1, .int m_t.2.2, .ref a1, g8, g9, g10, g11, g12, g13, g14, g15, g16, g17, g18, g19, g20, g21, g22, g23, g24, .ref a2, .ref a3, .int m_z.2.2, g25, g26, g27, g28, g29, g30]))])) (wr := (bX11 a1 uq kq q_q ([(a2, .inl (cB32, 5, .inl m_z.1)), (a3, .inl (cB33, 5, .inl m_z.2.1))]))) hP hD hK hS hA [0] [1, 2, 3, 4, 5, 6, 7, 8, 9, 10, 11, 12, 13, 14, 15, 16, 17] rfl rfl (by decide) (by decide) (by decide) (fun hPc hDc => (va_runV (As := [.int 6]) (rest := []) ⟨hx, hb, hml, hown, hts⟩ (kfX12_refused l dC dI a0 (6 : Int32) ((0 : Int32), m_t.2) (.ref a1) (g8) (g9) (g10) (g11) (g12) (g13) (g14) (g15) (g16) (g17) (g18) (g19) (g20) (g21) (g22) (g23) (g24) (.ref a2) (.ref a3) (.int m_z.2.2) (g25) (g26) (g27) (g28) (g29) (g30) H.size o31 eo31.symm) (cwV 1 hts gfX12_seatings_3 rfl rfl rfl (by decide +kernel) ⟨(Nat.le_of_ble_eq_true rfl), (Nat.le_of_ble_eq_true rfl)⟩) (PV hPc (hK.sub (tys' := ([])) [] rfl) hDc hN 0 rfl rfl) rfl rfl hl.1 rfl (lv_room (Nat.le_of_ble_eq_true rfl)) (zat zrX12_seatings_0_ok 13 rfl) ⟨(Nat.le_of_ble_eq_true rfl), (Nat.le_of_ble_eq_true rfl)⟩)) (fun r31 _ H locs hw hP hD _ hS => ?_)
    obtain rfl := hw
    obtain ⟨hP, hD⟩ := pd_mk (bX11 a1 uq kq q_q ([(a2, .inl (cB32, 5, .inl m_z.1)), (a3, .inl (cB33, 5, .inl m_z.2.1)), (a0, .inr (9, [.int o31.1, .int o31.2.1, .int o31.2.2, .ref a1, g8, g9, g10, g11, g12, g13, g14, g15, g16, g17, g18, g19, g20, g21, g22, g23, g24, .ref a2, .ref a3, .int m_z.2.2, g25, g26, g27, g28, g29, g30]))])) hP hD
    obtain rfl := Option.some.inj h
    obtain ⟨hP9, hD9⟩ := pd_sub ((a0, .inr (9, [.int o31.1, .int o31.2.1, .int o31.2.2, .ref a1, g8, g9, g10, g11, g12, g13, g14, g15, g16, g17, g18, g19, g20, g21, g22, g23, g24, .ref a2, .ref a3, .int m_z.2.2, g25, g26, g27, g28, g29, g30])) :: bX11 a1 uq kq q_q ([(a2, .inl (cB32, 5, .inl m_z.1)), (a3, .inl (cB33, 5, .inl m_z.2.1))])) [17, 0, 1, 2, 3, 4, 5, 6, 7, 8, 9, 10, 11, 12, 13, 14, 15, 16] hP hD (by decide) rfl
    have hK9 := hK.sub (tys' := []) [] rfl
    rw [hQQ]
    exact W.iret (v := (-1 : Int32)) hx hb hr (fun t ht hW => ⟨⟨(-1 : Int32), (), rfl, rfl, by rw [ht]; exact hP9, va_K.moved hW.alike hK9, hD9⟩, hS.F ht⟩) hS.2.2 (zat zrX12_seatings_0_ok 14 rfl)
