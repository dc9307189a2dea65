noncomputable def zrX12_oddsOf_0 : List ZR := zc 0 true (.aload_n 0) 1 (zc 1 true (.getfield 17) 3 (zc 4 true (.iconst 0) 1 (zc 5 true (.iload_n 1) 1 (zc 6 true (.iadd) 1 (zc 7 true (.iaload) 1 (zc 8 true (.ifCond .eq 5) 3 (zc 11 true (.lconst 0) 1 (zc 12 true (.lreturn) 1 (zc 13 true (.lconst 1) 1 (zc 14 true (.lstore_n 3) 1 (zc 15 true (.iconst 0) 1 (zc 16 true (.istore 5) 2 (zc 18 true (.iload 5) 2 (zc 20 true (.aload_n 0) 1 (zc 21 true (.getfield 299) 3 (zc 24 true (.getfield 231) 3 (zc 27 true (.if_icmp .ge 68) 3 (zc 30 true (.aload_n 0) 1 (zc 31 true (.getfield 17) 3 (zc 34 true (.iconst 0) 1 (zc 35 true (.iload 5) 2 (zc 37 true (.iadd) 1 (zc 38 true (.iaload) 1 (zc 39 true (.ifCond .eq 6) 3 (zc 42 true (.goto 47) 3 (zc 45 true (.lload_n 3) 1 (zc 46 true (.iload 5) 2 (zc 48 true (.iload_n 1) 1 (zc 49 true (.if_icmp .ge 18) 3 (zc 52 true (.ldc2_w 344) 3 (zc 55 true (.aload_n 0) 1 (zc 56 true (.iload 5) 2 (zc 58 true (.iload_n 2) 1 (zc 59 true (.invokevirtual 346) 3 (zc 62 true (.i2l) 1 (zc 63 true (.lsub) 1 (zc 64 true (.goto 23) 3 (zc 67 true (.iload 5) 2 (zc 69 true (.iload_n 1) 1 (zc 70 true (.if_icmp .ne 14) 3 (zc 73 true (.aload_n 0) 1 (zc 74 true (.iload 5) 2 (zc 76 true (.iload_n 2) 1 (zc 77 true (.invokevirtual 346) 3 (zc 80 true (.i2l) 1 (zc 81 true (.goto 6) 3 (zc 84 true (.ldc2_w 344) 3 (zc 87 true (.lmul) 1 (zc 88 true (.lstore_n 3) 1 (zc 89 true (.iinc 5 1) 3 (zc 92 true (.goto (-74)) 3 (zc 95 true (.lload_n 3) 1 (zc 96 true (.lreturn) 1 ([]))))))))))))))))))))))))))))))))))))))))))))))))))))))
theorem zrX12_oddsOf_0_ok : zck 0 ((zby cX12_oddsOf).drop 0) zrX12_oddsOf_0 = true := by decide +kernel
def vfX12_oddsOf : List Cond := List.cons (.code yX12_oddsOf cX12_oddsOf 6 (some .long)) (apW [.fieldLink RX12 17 "HookPierModel" "v" "[I", .fieldLink RX12 299 "HookPierModel" "pier" "LHookPierModel$Pier;", .constantLong RX12 344 (100), .methodLink RX12 346 yX12_wishOf, .instanceMethod yX12_wishOf, .selects RX12 yX12_wishOf yX12_wishOf, .initialized RX12] (apW wsX120 (apW wsX110 (vfX12_wishOf))))
theorem ifX12_oddsOf_X12 : ∀ w ∈ wsX120, w ∈ vfX12_oddsOf := fun _ h => (List.mem_cons_of_mem _ (List.mem_append_right _ (List.mem_append_left _ h)))
theorem ifX12_oddsOf_X11 : ∀ w ∈ wsX110, w ∈ vfX12_oddsOf := fun _ h => (List.mem_cons_of_mem _ (List.mem_append_right _ (List.mem_append_right _ (List.mem_append_left _ h))))
theorem qfX12_oddsOf : Good vfX12_oddsOf := gd_cons (by decide +kernel) (gd_app (gd_dec (by decide +kernel) : Good [.fieldLink RX12 17 "HookPierModel" "v" "[I", .fieldLink RX12 299 "HookPierModel" "pier" "LHookPierModel$Pier;", .constantLong RX12 344 (100), .methodLink RX12 346 yX12_wishOf, .instanceMethod yX12_wishOf, .selects RX12 yX12_wishOf yX12_wishOf, .initialized RX12]) (gd_app qsX12 (gd_app qsX11 qfX12_wishOf)))
theorem gfX12_oddsOf_0 : GoodIn vfX12_oddsOf (wsV RX12 346 RX12 yX12_wishOf vfX12_wishOf) := goodIn_app (goodIn_r [.methodLink RX12 346 yX12_wishOf, .instanceMethod yX12_wishOf, .selects RX12 yX12_wishOf yX12_wishOf, .initialized RX12] [4, 5, 6, 7] rfl (by decide +kernel)) (goodIn_m (fun _ h => (List.mem_cons_of_mem _ (List.mem_append_right _ (List.mem_append_right _ (List.mem_append_right _ h))))) qfX12_wishOf)
set_option maxHeartbeats 2000000 in
set_option maxRecDepth 100000 in
theorem kfX12_oddsOf (l : Launch) (dC : Nat → ClassId) (dI : Nat → Nat → Nat) (a0 : Nat) (k1 : Int32) (k2 : Int32) (a3 : Nat) (a4 : Nat) (uq : Nat → Nat) (kq : Nat → ClassId) (m_v : TX12_v) (g8 : Value) (g9 : Value) (g10 : Value) (g11 : Value) (g12 : Value) (g13 : Value) (g14 : Value) (g15 : Value) (g16 : Value) (g17 : Value) (g18 : Value) (g19 : Value) (g20 : Value) (g21 : Value) (g22 : Value) (g23 : Value) (g24 : Value) (g25 : Value) (g26 : Value) (g27 : Value) (g28 : Value) (g29 : Value) (g30 : Value) (g31 : Value) (g32 : Value) (g33 : Value) (g34 : Value) (g35 : Value) (q_q : TX11_q) (cB37 : ClassId) (sz : Nat) (out : Int64) (h : f_X12_oddsOf k1 k2 m_v q_q = some out) : KDl l yX12_oddsOf vfX12_oddsOf ({ frames := 4, cells := 0, slots := 0, locals := 93 }) (dC, dI) [.ref a0, .int k1, .int k2] sz ((a0, .inr (9, [g8, g9, g10, .ref a3, g11, g12, g13, g14, g15, g16, g17, g18, g19, g20, g21, .ref a4, g22, g23, g24, g25, g26, g27, g28, g29, g30, g31, g32, g33, g34, g35])) :: bX11 a3 uq kq q_q ([(a4, .inl (cB37, 26, .inl m_v))])) (tX11 kq ((cB37, .int) :: [])) (fun (r : Int64) _ => r = out) 0 0 := by
  refine Met.ofW (cc := cX12_oddsOf) (maxL := 6) (ret := (some .long)) (by decide) rfl ?_
  intro p e s m args below meth c s₁ B0 hml hv
  obtain ⟨rfl, hsz, hP, hK, hD0, hN⟩ := hv
  have hx := B0.exec
  have hb := B0.bytes
  have hr := B0.returns
  have hts := atoms_spec (ws := vfX12_oddsOf) B0.pre
  have hown : s.vm.findClass RX12 = some m.cls := findClass_of_methodNamed B0.named
  have hlocks := B0.notSynchronized
  subst hsz
  have hD := hD0.self (sz := s.heap.size)
  generalize hAe : va_A ((a0, .inr (9, [g8, g9, g10, .ref a3, g11, g12, g13, g14, g15, g16, g17, g18, g19, g20, g21, .ref a4, g22, g23, g24, g25, g26, g27, g28, g29, g30, g31, g32, g33, g34, g35])) :: bX11 a3 uq kq q_q ([(a4, .inl (cB37, 26, .inl m_v))])) s.heap.size = A at hD ⊢
  have hA : ∀ q : Nat, s.heap.size ≤ q → A q := fun q h => by rw [← hAe]; exact Or.inr h
  have hS : va_S A s.heap s.heap [] := va_S.rf
  have hP : va_P (dC, dI) vwCl ((a0, .inr (9, [g8, g9, g10, .ref a3, g11, g12, g13, g14, g15, g16, g17, g18, g19, g20, g21, .ref a4, g22, g23, g24, g25, g26, g27, g28, g29, g30, g31, g32, g33, g34, g35])) :: bX11 a3 uq kq q_q ([(a4, .inl (cB37, 26, .inl m_v))])) s.heap := hP
  have hl := lv_entry ([.ref a0, .int k1, .int k2]) (n := 6) (Nat.le_of_ble_eq_true rfl)
  rw [lg_entry_eq]
  generalize (lg_sl ([.ref a0, .int k1, .int k2]) ++ List.replicate (6 - (lg_sl ([.ref a0, .int k1, .int k2])).length) Slot.unset).toArray = ls at hl ⊢
  have hl : lv_has ls 6 [(0, .ref a0), (1, .int k1), (2, .int k2)] := hl
  refine W_q (fun QQ hQQ => ?_)
  rw [f_X12_oddsOf] at h
  refine lv_aload_n hx hb (zat zrX12_oddsOf_0_ok 0 rfl) rfl (lv_at hl 0 rfl) ?_
  refine va_get (D := (dC, dI)) (ci := 9) (v := .ref a4) (C := RX12) (T := TX12) (N := 30) hx hb hts ifX12_oddsOf_X12 hown hK hP 0 rfl rfl 15 (by decide) (hts (.fieldLink RX12 17 "HookPierModel" "v" "[I") (List.mem_of_getElem? (i := 1) rfl)) (fun _ h9 => h9) rfl (zat zrX12_oddsOf_0_ok 1 rfl) ?_
  refine lv_iconst (v := 0) hx hb (zat zrX12_oddsOf_0_ok 2 rfl) (by decide) ?_
  refine lv_iload_n hx hb (zat zrX12_oddsOf_0_ok 3 rfl) rfl (lv_at hl 1 rfl) ?_
  refine lv_iadd hx hb (zat zrX12_oddsOf_0_ok 4 rfl) ?_
  obtain ⟨hg7, h⟩ := gA_of h
  refine va_iald hx hb hK hP 16 14 rfl rfl hg7 (zat zrX12_oddsOf_0_ok 5 rfl) ?_
  refine lv_if_eq (tgt := 13) hx hb (zat zrX12_oddsOf_0_ok 6 rfl) (by decide) (fun c8 => ?_) (fun c8 => ?_)
  · have h := (if_pos c8).symm.trans h
    refine lv_lconst (v := 1) hx hb (zat zrX12_oddsOf_0_ok 9 rfl) (by decide) ?_
    refine lv_lstore_n (lv' := [(3, .long 1), (0, .ref a0), (1, .int k1), (2, .int k2)]) hx hb (zat zrX12_oddsOf_0_ok 10 rfl) rfl hl (by decide) rfl (fun ls hl => ?_)
    refine lv_iconst (v := 0) hx hb (zat zrX12_oddsOf_0_ok 11 rfl) (by decide) ?_
    refine lv_istore (lv' := [(5, .int 0), (3, .long 1), (0, .ref a0), (1, .int k1), (2, .int k2)]) hx hb (zat zrX12_oddsOf_0_ok 12 rfl) hl (by decide) rfl (fun ls hl => ?_)
    have L18 : ∀ (n18 : Nat) (v18_l5 : Int32) (v18_l3 : Int64) (H : Heap) (locs : List Loc) (ls : Array Slot), f_X12_oddsOf_L18 k1 k2 m_v q_q n18 v18_l5 v18_l3 = some out → va_P (dC, dI) vwCl ((a0, .inr (9, [g8, g9, g10, .ref a3, g11, g12, g13, g14, g15, g16, g17, g18, g19, g20, g21, .ref a4, g22, g23, g24, g25, g26, g27, g28, g29, g30, g31, g32, g33, g34, g35])) :: bX11 a3 uq kq q_q ([(a4, .inl (cB37, 26, .inl m_v))])) H → va_D A ((a0, .inr (9, [g8, g9, g10, .ref a3, g11, g12, g13, g14, g15, g16, g17, g18, g19, g20, g21, .ref a4, g22, g23, g24, g25, g26, g27, g28, g29, g30, g31, g32, g33, g34, g35])) :: bX11 a3 uq kq q_q ([(a4, .inl (cB37, 26, .inl m_v))])) → va_S A s.heap H locs → lv_has ls 6 [(5, .int v18_l5), (3, .long v18_l3), (0, .ref a0), (1, .int k1), (2, .int k2)] → W p l e (headSpec vfX12_oddsOf { frames := 4, cells := 0, slots := 0, locals := 93 }).room s m ([.ref a0, .int k1, .int k2]).toArray below meth c H locs 0 0 QQ (F0 m 18 ls []) := by
      intro n18
      induction n18 with
      | zero =>
        intro v18_l5 v18_l3 H locs ls h  _ _ _ _
        rw [f_X12_oddsOf_L18] at h
        cases h
      | succ n18 ih18 =>
        intro v18_l5 v18_l3 H locs ls h  hP hD hS hl
        rw [f_X12_oddsOf_L18] at h
        refine lv_iload hx hb (zat zrX12_oddsOf_0_ok 13 rfl) (lv_at hl 0 rfl) ?_
        refine lv_aload_n hx hb (zat zrX12_oddsOf_0_ok 14 rfl) rfl (lv_at hl 2 rfl) ?_
        refine va_get (D := (dC, dI)) (ci := 9) (v := .ref a3) (C := RX12) (T := TX12) (N := 30) hx hb hts ifX12_oddsOf_X12 hown hK hP 0 rfl rfl 3 (by decide) (hts (.fieldLink RX12 299 "HookPierModel" "pier" "LHookPierModel$Pier;") (List.mem_of_getElem? (i := 2) rfl)) (fun _ h9 => h9) rfl (zat zrX12_oddsOf_0_ok 15 rfl) ?_
        refine va_getN (D := (dC, dI)) (ci := 8) (v := .int q_q.2.2.2.2.2.2.1) (C := RX11) (T := TX11) (N := 24) hx hb hts ifX12_oddsOf_X11 hown hK hP 1 rfl rfl 6 (by decide) (va_Nw.use rfl (hN.1 (.fieldLinkNest RX12 231 "HookPierModel$Pier" "answers" "I" "HookPierModel") (List.mem_of_getElem? (i := 28) rfl))) (fun _ h9 => h9) rfl (zat zrX12_oddsOf_0_ok 16 rfl) ?_
        refine lv_icmp_ge (tgt := 95) hx hb (zat zrX12_oddsOf_0_ok 17 rfl) (by decide) (fun c27 => ?_) (fun c27 => ?_)
        · have h := (if_pos c27).symm.trans h
          refine lv_lload_n hx hb (zat zrX12_oddsOf_0_ok 52 rfl) rfl (lv_at hl 1 rfl) ?_
          obtain rfl := Option.some.inj h
          obtain ⟨hP9, hD9⟩ := pd_sub ((a0, .inr (9, [g8, g9, g10, .ref a3, g11, g12, g13, g14, g15, g16, g17, g18, g19, g20, g21, .ref a4, g22, g23, g24, g25, g26, g27, g28, g29, g30, g31, g32, g33, g34, g35])) :: bX11 a3 uq kq q_q ([(a4, .inl (cB37, 26, .inl m_v))])) [0, 1, 2, 3, 4, 5, 6, 7, 8, 9, 10, 11, 12, 13, 14, 15, 16] hP hD (by decide) rfl
          have hK9 := hK.sub (tys' := []) [] rfl
          rw [hQQ]
          exact W.lret (v := v18_l3) hx hb hr (fun t ht hW => ⟨⟨v18_l3, (), rfl, rfl, by rw [ht]; exact hP9, va_K.moved hW.alike hK9, hD9⟩, hS.F ht⟩) hS.2.2 (zat zrX12_oddsOf_0_ok 53 rfl)
        · have h := (if_neg c27).symm.trans h
          refine lv_aload_n hx hb (zat zrX12_oddsOf_0_ok 18 rfl) rfl (lv_at hl 2 rfl) ?_
          refine va_get (D := (dC, dI)) (ci := 9) (v := .ref a4) (C := RX12) (T := TX12) (N := 30) hx hb hts ifX12_oddsOf_X12 hown hK hP 0 rfl rfl 15 (by decide) (hts (.fieldLink RX12 17 "HookPierModel" "v" "[I") (List.mem_of_getElem? (i := 1) rfl)) (fun _ h9 => h9) rfl (zat zrX12_oddsOf_0_ok 19 rfl) ?_
          refine lv_iconst (v := 0) hx hb (zat zrX12_oddsOf_0_ok 20 rfl) (by decide) ?_
          refine lv_iload hx hb (zat zrX12_oddsOf_0_ok 21 rfl) (lv_at hl 0 rfl) ?_
          refine lv_iadd hx hb (zat zrX12_oddsOf_0_ok 22 rfl) ?_
          obtain ⟨hg38, h⟩ := gA_of h
          refine va_iald hx hb hK hP 16 14 rfl rfl hg38 (zat zrX12_oddsOf_0_ok 23 rfl) ?_
          have J89 : ∀ (v89_l3 : Int64) (H : Heap) (locs : List Loc) (ls : Array Slot), f_X12_oddsOf_J89 (f_X12_oddsOf_L18 k1 k2 m_v q_q n18) v18_l5 v89_l3 = some out → va_P (dC, dI) vwCl ((a0, .inr (9, [g8, g9, g10, .ref a3, g11, g12, g13, g14, g15, g16, g17, g18, g19, g20, g21, .ref a4, g22, g23, g24, g25, g26, g27, g28, g29, g30, g31, g32, g33, g34, g35])) :: bX11 a3 uq kq q_q ([(a4, .inl (cB37, 26, .inl m_v))])) H → va_D A ((a0, .inr (9, [g8, g9, g10, .ref a3, g11, g12, g13, g14, g15, g16, g17, g18, g19, g20, g21, .ref a4, g22, g23, g24, g25, g26, g27, g28, g29, g30, g31, g32, g33, g34, g35])) :: bX11 a3 uq kq q_q ([(a4, .inl (cB37, 26, .inl m_v))])) → va_S A s.heap H locs → lv_has ls 6 [(5, .int v18_l5), (3, .long v89_l3), (0, .ref a0), (1, .int k1), (2, .int k2)] → W p l e (headSpec vfX12_oddsOf { frames := 4, cells := 0, slots := 0, locals := 93 }).room s m ([.ref a0, .int k1, .int k2]).toArray below meth c H locs 0 0 QQ (F0 m 89 ls []) := by
            intro v89_l3 H locs ls h  hP hD hS hl
            rw [f_X12_oddsOf_J89] at h
            refine lv_iinc (v := (v18_l5 + (1 : Int32))) (lv' := [(5, .int (v18_l5 + (1 : Int32))), (3, .long v89_l3), (0, .ref a0), (1, .int k1), (2, .int k2)]) hx hb (zat zrX12_oddsOf_0_ok 50 rfl) hl (k := 0) rfl rfl (by decide) rfl (fun ls hl => ?_)
            refine lv_goto (tgt := 18) hx hb (zat zrX12_oddsOf_0_ok 51 rfl) (by decide) ?_
            exact ih18 (v18_l5 + (1 : Int32)) v89_l3 H _ ls h  hP hD hS (lv_sub hl [0, 1, 2, 3, 4] rfl)
          refine lv_if_eq (tgt := 45) hx hb (zat zrX12_oddsOf_0_ok 24 rfl) (by decide) (fun c39 => ?_) (fun c39 => ?_)
          · have h := (if_pos c39).symm.trans h
            refine lv_lload_n hx hb (zat zrX12_oddsOf_0_ok 26 rfl) rfl (lv_at hl 1 rfl) ?_
            refine lv_iload hx hb (zat zrX12_oddsOf_0_ok 27 rfl) (lv_at hl 0 rfl) ?_
            refine lv_iload_n hx hb (zat zrX12_oddsOf_0_ok 28 rfl) rfl (lv_at hl 3 rfl) ?_
            have J87 : ∀ (v87_t1 : Int64) (H : Heap) (locs : List Loc) (ls : Array Slot), f_X12_oddsOf_J87 (f_X12_oddsOf_L18 k1 k2 m_v q_q n18) v18_l3 v18_l5 v87_t1 = some out → va_P (dC, dI) vwCl ((a0, .inr (9, [g8, g9, g10, .ref a3, g11, g12, g13, g14, g15, g16, g17, g18, g19, g20, g21, .ref a4, g22, g23, g24, g25, g26, g27, g28, g29, g30, g31, g32, g33, g34, g35])) :: bX11 a3 uq kq q_q ([(a4, .inl (cB37, 26, .inl m_v))])) H → va_D A ((a0, .inr (9, [g8, g9, g10, .ref a3, g11, g12, g13, g14, g15, g16, g17, g18, g19, g20, g21, .ref a4, g22, g23, g24, g25, g26, g27, g28, g29, g30, g31, g32, g33, g34, g35])) :: bX11 a3 uq kq q_q ([(a4, .inl (cB37, 26, .inl m_v))])) → va_S A s.heap H locs → lv_has ls 6 [(5, .int v18_l5), (0, .ref a0), (1, .int k1), (2, .int k2)] → W p l e (headSpec vfX12_oddsOf { frames := 4, cells := 0, slots := 0, locals := 93 }).room s m ([.ref a0, .int k1, .int k2]).toArray below meth c H locs 0 0 QQ (F0 m 87 ls [.long v87_t1, .long v18_l3]) := by
              intro v87_t1 H locs ls h  hP hD hS hl
              rw [f_X12_oddsOf_J87] at h
              refine lv_lmul hx hb (zat zrX12_oddsOf_0_ok 48 rfl) ?_
              refine lv_lstore_n (lv' := [(3, .long (v18_l3 * v87_t1)), (5, .int v18_l5), (0, .ref a0), (1, .int k1), (2, .int k2)]) hx hb (zat zrX12_oddsOf_0_ok 49 rfl) rfl hl (by decide) rfl (fun ls hl => ?_)
              exact J89 (v18_l3 * v87_t1) H _ ls h  hP hD hS (lv_sub hl [1, 0, 2, 3, 4] rfl)
            refine lv_icmp_ge (tgt := 67) hx hb (zat zrX12_oddsOf_0_ok 29 rfl) (by decide) (fun c49 => ?_) (fun c49 => ?_)
            · have h := (if_pos c49).symm.trans h
              refine lv_iload hx hb (zat zrX12_oddsOf_0_ok 38 rfl) (lv_at hl 0 rfl) ?_
              refine lv_iload_n hx hb (zat zrX12_oddsOf_0_ok 39 rfl) rfl (lv_at hl 3 rfl) ?_
              refine lv_icmp_ne (tgt := 84) hx hb (zat zrX12_oddsOf_0_ok 40 rfl) (by decide) (fun c70 => ?_) (fun c70 => ?_)
              · have h := (if_neg c70).symm.trans h
                refine lv_ldc2 hx hb hown (hts (.constantLong RX12 344 (100)) (List.mem_of_getElem? (i := 3) rfl)) (zat zrX12_oddsOf_0_ok 47 rfl) ?_
                exact J87 (100 : Int64) H _ ls h  hP hD hS (lv_sub hl [0, 2, 3, 4] rfl)
              · have h := (if_pos c70).symm.trans h
                refine lv_aload_n hx hb (zat zrX12_oddsOf_0_ok 41 rfl) rfl (lv_at hl 2 rfl) ?_
                refine lv_iload hx hb (zat zrX12_oddsOf_0_ok 42 rfl) (lv_at hl 0 rfl) ?_
                refine lv_iload_n hx hb (zat zrX12_oddsOf_0_ok 43 rfl) rfl (lv_at hl 4 rfl) ?_
                obtain ⟨o77, eo77, h⟩ := bd_of h
                refine ck_i (wc := ((a0, .inr (9, [g8, g9, g10, .ref a3, g11, g12, g13, g14, g15, g16, g17, g18, g19, g20, g21, .ref a4, g22, g23, g24, g25, g26, g27, g28, g29, g30, g31, g32, g33, g34, g35])) :: bX11 a3 uq kq q_q [])) (wr := ([(a4, .inl (cB37, 26, .inl m_v))])) hP hD hK hS hA [0, 1, 2, 3, 4, 5, 6, 7, 8, 9, 10, 11, 12, 13, 14, 15] [16] rfl rfl (by decide) (by decide) (by decide) (fun hPc hDc => (va_runV (As := [.int v18_l5, .int k2]) (rest := [.long v18_l3]) ⟨hx, hb, hml, hown, hts⟩ (kfX12_wishOf l dC dI a0 v18_l5 k2 a3 uq kq (g8) (g9) (g10) (g11) (g12) (g13) (g14) (g15) (g16) (g17) (g18) (g19) (g20) (g21) (.ref a4) (g22) (g23) (g24) (g25) (g26) (g27) (g28) (g29) (g30) (g31) (g32) (g33) (g34) (g35) q_q H.size o77 eo77) (cwV 2 hts gfX12_oddsOf_0 rfl rfl rfl (by decide +kernel) ⟨(Nat.le_of_ble_eq_true rfl), (Nat.le_of_ble_eq_true rfl)⟩) (PV hPc (hK.sub (tys' := (tX11 kq ([]))) [0, 1, 2, 3, 4, 5, 6, 7, 8, 9, 10, 11, 12, 13] rfl) hDc hN 0 rfl rfl) rfl rfl hl.1 rfl (lv_room (Nat.le_of_ble_eq_true rfl)) (zat zrX12_oddsOf_0_ok 44 rfl) ⟨(Nat.le_of_ble_eq_true rfl), (Nat.le_of_ble_eq_true rfl)⟩)) (fun r77 _ H locs hw hP hD _ hS => ?_)
                obtain rfl := hw.symm
                obtain ⟨hP, hD⟩ := pd_mk ((a4, .inl (cB37, 26, .inl m_v)) :: (a0, .inr (9, [g8, g9, g10, .ref a3, g11, g12, g13, g14, g15, g16, g17, g18, g19, g20, g21, .ref a4, g22, g23, g24, g25, g26, g27, g28, g29, g30, g31, g32, g33, g34, g35])) :: bX11 a3 uq kq q_q []) hP hD
                refine lv_i2l hx hb (zat zrX12_oddsOf_0_ok 45 rfl) rfl ?_
                refine lv_goto (tgt := 87) hx hb (zat zrX12_oddsOf_0_ok 46 rfl) (by decide) ?_
                exact J87 (o77).toInt64 H _ ls h  (hP.sub (ws' := ((a0, .inr (9, [g8, g9, g10, .ref a3, g11, g12, g13, g14, g15, g16, g17, g18, g19, g20, g21, .ref a4, g22, g23, g24, g25, g26, g27, g28, g29, g30, g31, g32, g33, g34, g35])) :: bX11 a3 uq kq q_q ([(a4, .inl (cB37, 26, .inl m_v))]))) [1, 2, 3, 4, 5, 6, 7, 8, 9, 10, 11, 12, 13, 14, 15, 16, 0] rfl) (hD.sub (ws' := ((a0, .inr (9, [g8, g9, g10, .ref a3, g11, g12, g13, g14, g15, g16, g17, g18, g19, g20, g21, .ref a4, g22, g23, g24, g25, g26, g27, g28, g29, g30, g31, g32, g33, g34, g35])) :: bX11 a3 uq kq q_q ([(a4, .inl (cB37, 26, .inl m_v))]))) [1, 2, 3, 4, 5, 6, 7, 8, 9, 10, 11, 12, 13, 14, 15, 16, 0] (by decide) rfl) hS (lv_sub hl [0, 2, 3, 4] rfl)
            · have h := (if_neg c49).symm.trans h
              refine lv_ldc2 hx hb hown (hts (.constantLong RX12 344 (100)) (List.mem_of_getElem? (i := 3) rfl)) (zat zrX12_oddsOf_0_ok 30 rfl) ?_
              refine lv_aload_n hx hb (zat zrX12_oddsOf_0_ok 31 rfl) rfl (lv_at hl 2 rfl) ?_
              refine lv_iload hx hb (zat zrX12_oddsOf_0_ok 32 rfl) (lv_at hl 0 rfl) ?_
              refine lv_iload_n hx hb (zat zrX12_oddsOf_0_ok 33 rfl) rfl (lv_at hl 4 rfl) ?_
              obtain ⟨o59, eo59, h⟩ := bd_of h
              refine ck_i (wc := ((a0, .inr (9, [g8, g9, g10, .ref a3, g11, g12, g13, g14, g15, g16, g17, g18, g19, g20, g21, .ref a4, g22, g23, g24, g25, g26, g27, g28, g29, g30, g31, g32, g33, g34, g35])) :: bX11 a3 uq kq q_q [])) (wr := ([(a4, .inl (cB37, 26, .inl m_v))])) hP hD hK hS hA [0, 1, 2, 3, 4, 5, 6, 7, 8, 9, 10, 11, 12, 13, 14, 15] [16] rfl rfl (by decide) (by decide) (by decide) (fun hPc hDc => (va_runV (As := [.int v18_l5, .int k2]) (rest := [.long 100, .long v18_l3]) ⟨hx, hb, hml, hown, hts⟩ (kfX12_wishOf l dC dI a0 v18_l5 k2 a3 uq kq (g8) (g9) (g10) (g11) (g12) (g13) (g14) (g15) (g16) (g17) (g18) (g19) (g20) (g21) (.ref a4) (g22) (g23) (g24) (g25) (g26) (g27) (g28) (g29) (g30) (g31) (g32) (g33) (g34) (g35) q_q H.size o59 eo59) (cwV 2 hts gfX12_oddsOf_0 rfl rfl rfl (by decide +kernel) ⟨(Nat.le_of_ble_eq_true rfl), (Nat.le_of_ble_eq_true rfl)⟩) (PV hPc (hK.sub (tys' := (tX11 kq ([]))) [0, 1, 2, 3, 4, 5, 6, 7, 8, 9, 10, 11, 12, 13] rfl) hDc hN 0 rfl rfl) rfl rfl hl.1 rfl (lv_room (Nat.le_of_ble_eq_true rfl)) (zat zrX12_oddsOf_0_ok 34 rfl) ⟨(Nat.le_of_ble_eq_true rfl), (Nat.le_of_ble_eq_true rfl)⟩)) (fun r59 _ H locs hw hP hD _ hS => ?_)
              obtain rfl := hw.symm
              obtain ⟨hP, hD⟩ := pd_mk ((a4, .inl (cB37, 26, .inl m_v)) :: (a0, .inr (9, [g8, g9, g10, .ref a3, g11, g12, g13, g14, g15, g16, g17, g18, g19, g20, g21, .ref a4, g22, g23, g24, g25, g26, g27, g28, g29, g30, g31, g32, g33, g34, g35])) :: bX11 a3 uq kq q_q []) hP hD
              refine lv_i2l hx hb (zat zrX12_oddsOf_0_ok 35 rfl) rfl ?_
              refine lv_lsub hx hb (zat zrX12_oddsOf_0_ok 36 rfl) ?_
              refine lv_goto (tgt := 87) hx hb (zat zrX12_oddsOf_0_ok 37 rfl) (by decide) ?_
              exact J87 ((100 : Int64) - (o59).toInt64) H _ ls h  (hP.sub (ws' := ((a0, .inr (9, [g8, g9, g10, .ref a3, g11, g12, g13, g14, g15, g16, g17, g18, g19, g20, g21, .ref a4, g22, g23, g24, g25, g26, g27, g28, g29, g30, g31, g32, g33, g34, g35])) :: bX11 a3 uq kq q_q ([(a4, .inl (cB37, 26, .inl m_v))]))) [1, 2, 3, 4, 5, 6, 7, 8, 9, 10, 11, 12, 13, 14, 15, 16, 0] rfl) (hD.sub (ws' := ((a0, .inr (9, [g8, g9, g10, .ref a3, g11, g12, g13, g14, g15, g16, g17, g18, g19, g20, g21, .ref a4, g22, g23, g24, g25, g26, g27, g28, g29, g30, g31, g32, g33, g34, g35])) :: bX11 a3 uq kq q_q ([(a4, .inl (cB37, 26, .inl m_v))]))) [1, 2, 3, 4, 5, 6, 7, 8, 9, 10, 11, 12, 13, 14, 15, 16, 0] (by decide) rfl) hS (lv_sub hl [0, 2, 3, 4] rfl)
          · have h := (if_neg c39).symm.trans h
            refine lv_goto (tgt := 89) hx hb (zat zrX12_oddsOf_0_ok 25 rfl) (by decide) ?_
            exact J89 v18_l3 H _ ls h  hP hD hS (lv_sub hl [0, 1, 2, 3, 4] rfl)
    exact L18 FU (0 : Int32) (1 : Int64) s.heap _ ls h  hP hD hS (lv_sub hl [0, 1, 2, 3, 4] rfl)
  · have h := (if_neg c8).symm.trans h
    refine lv_lconst (v := 0) hx hb (zat zrX12_oddsOf_0_ok 7 rfl) (by decide) ?_
    obtain rfl := Option.some.inj h
    obtain ⟨hP9, hD9⟩ := pd_sub ((a0, .inr (9, [g8, g9, g10, .ref a3, g11, g12, g13, g14, g15, g16, g17, g18, g19, g20, g21, .ref a4, g22, g23, g24, g25, g26, g27, g28, g29, g30, g31, g32, g33, g34, g35])) :: bX11 a3 uq kq q_q ([(a4, .inl (cB37, 26, .inl m_v))])) [0, 1, 2, 3, 4, 5, 6, 7, 8, 9, 10, 11, 12, 13, 14, 15, 16] hP hD (by decide) rfl
    have hK9 := hK.sub (tys' := []) [] rfl
    rw [hQQ]
    exact W.lret (v := (0 : Int64)) hx hb hr (fun t ht hW => ⟨⟨(0 : Int64), (), rfl, rfl, by rw [ht]; exact hP9, va_K.moved hW.alike hK9, hD9⟩, hS.F ht⟩) hS.2.2 (zat zrX12_oddsOf_0_ok 8 rfl)
noncomputable def zrX12_whole_0 : List ZR := zc 0 true (.lconst 1) 1 (zc 1 true (.lstore_n 1) 1 (zc 2 true (.iconst 0) 1 (zc 3 true (.istore_n 3) 1 (zc 4 true (.iload_n 3) 1 (zc 5 true (.aload_n 0) 1 (zc 6 true (.getfield 299) 3 (zc 9 true (.getfield 231) 3 (zc 12 true (.if_icmp .ge 30) 3 (zc 15 true (.lload_n 1) 1 (zc 16 true (.aload_n 0) 1 (zc 17 true (.getfield 17) 3 (zc 20 true (.iconst 0) 1 (zc 21 true (.iload_n 3) 1 (zc 22 true (.iadd) 1 (zc 23 true (.iaload) 1 (zc 24 true (.ifCond .ne 9) 3 (zc 27 true (.ldc2_w 344) 3 (zc 30 true (.goto 4) 3 (zc 33 true (.lconst 1) 1 (zc 34 true (.lmul) 1 (zc 35 true (.lstore_n 1) 1 (zc 36 true (.iinc 3 1) 3 (zc 39 true (.goto (-35)) 3 (zc 42 true (.lload_n 1) 1 (zc 43 true (.lreturn) 1 ([]))))))))))))))))))))))))))
theorem zrX12_whole_0_ok : zck 0 ((zby cX12_whole).drop 0) zrX12_whole_0 = true := by decide +kernel
def vfX12_whole : List Cond := List.cons (.code yX12_whole cX12_whole 4 (some .long)) (apW [.fieldLink RX12 299 "HookPierModel" "pier" "LHookPierModel$Pier;", .fieldLink RX12 17 "HookPierModel" "v" "[I", .constantLong RX12 344 (100)] (apW wsX120 (wsX110)))
theorem ifX12_whole_X12 : ∀ w ∈ wsX120, w ∈ vfX12_whole := fun _ h => (List.mem_cons_of_mem _ (List.mem_append_right _ (List.mem_append_left _ h)))
theorem ifX12_whole_X11 : ∀ w ∈ wsX110, w ∈ vfX12_whole := fun _ h => (List.mem_cons_of_mem _ (List.mem_append_right _ (List.mem_append_right _ h)))
theorem qfX12_whole : Good vfX12_whole := gd_cons (by decide +kernel) (gd_app (gd_dec (by decide +kernel) : Good [.fieldLink RX12 299 "HookPierModel" "pier" "LHookPierModel$Pier;", .fieldLink RX12 17 "HookPierModel" "v" "[I", .constantLong RX12 344 (100)]) (gd_app qsX12 qsX11))
set_option maxHeartbeats 2000000 in
set_option maxRecDepth 100000 in
theorem kfX12_whole (l : Launch) (dC : Nat → ClassId) (dI : Nat → Nat → Nat) (a0 : Nat) (a1 : Nat) (a2 : Nat) (uq : Nat → Nat) (kq : Nat → ClassId) (m_v : TX12_v) (g6 : Value) (g7 : Value) (g8 : Value) (g9 : Value) (g10 : Value) (g11 : Value) (g12 : Value) (g13 : Value) (g14 : Value) (g15 : Value) (g16 : Value) (g17 : Value) (g18 : Value) (g19 : Value) (g20 : Value) (g21 : Value) (g22 : Value) (g23 : Value) (g24 : Value) (g25 : Value) (g26 : Value) (g27 : Value) (g28 : Value) (g29 : Value) (g30 : Value) (g31 : Value) (g32 : Value) (g33 : Value) (q_q : TX11_q) (cB35 : ClassId) (sz : Nat) (out : Int64) (h : f_X12_whole m_v q_q = some out) : KDl l yX12_whole vfX12_whole ({ frames := 0, cells := 0, slots := 0, locals := 0 }) (dC, dI) [.ref a0] sz ((a0, .inr (9, [g6, g7, g8, .ref a1, g9, g10, g11, g12, g13, g14, g15, g16, g17, g18, g19, .ref a2, g20, g21, g22, g23, g24, g25, g26, g27, g28, g29, g30, g31, g32, g33])) :: bX11 a1 uq kq q_q ([(a2, .inl (cB35, 26, .inl m_v))])) (tX11 kq ((cB35, .int) :: [])) (fun (r : Int64) _ => r = out) 0 0 := by
  refine Met.ofW (cc := cX12_whole) (maxL := 4) (ret := (some .long)) (by decide) rfl ?_
  intro p e s m args below meth c s₁ B0 hml hv
  obtain ⟨rfl, hsz, hP, hK, hD0, hN⟩ := hv
  have hx := B0.exec
  have hb := B0.bytes
  have hr := B0.returns
  have hts := atoms_spec (ws := vfX12_whole) B0.pre
  have hown : s.vm.findClass RX12 = some m.cls := findClass_of_methodNamed B0.named
  have hlocks := B0.notSynchronized
  subst hsz
  have hD := hD0.self (sz := s.heap.size)
  generalize hAe : va_A ((a0, .inr (9, [g6, g7, g8, .ref a1, g9, g10, g11, g12, g13, g14, g15, g16, g17, g18, g19, .ref a2, g20, g21, g22, g23, g24, g25, g26, g27, g28, g29, g30, g31, g32, g33])) :: bX11 a1 uq kq q_q ([(a2, .inl (cB35, 26, .inl m_v))])) s.heap.size = A at hD ⊢
  have hA : ∀ q : Nat, s.heap.size ≤ q → A q := fun q h => by rw [← hAe]; exact Or.inr h
  have hS : va_S A s.heap s.heap [] := va_S.rf
  have hP : va_P (dC, dI) vwCl ((a0, .inr (9, [g6, g7, g8, .ref a1, g9, g10, g11, g12, g13, g14, g15, g16, g17, g18, g19, .ref a2, g20, g21, g22, g23, g24, g25, g26, g27, g28, g29, g30, g31, g32, g33])) :: bX11 a1 uq kq q_q ([(a2, .inl (cB35, 26, .inl m_v))])) s.heap := hP
  have hl := lv_entry ([.ref a0]) (n := 4) (Nat.le_of_ble_eq_true rfl)
  rw [lg_entry_eq]
  generalize (lg_sl ([.ref a0]) ++ List.replicate (4 - (lg_sl ([.ref a0])).length) Slot.unset).toArray = ls at hl ⊢
  have hl : lv_has ls 4 [(0, .ref a0)] := hl
  refine W_q (fun QQ hQQ => ?_)
  rw [f_X12_whole] at h
  refine lv_lconst (v := 1) hx hb (zat zrX12_whole_0_ok 0 rfl) (by decide) ?_
  refine lv_lstore_n (lv' := [(1, .long 1), (0, .ref a0)]) hx hb (zat zrX12_whole_0_ok 1 rfl) rfl hl (by decide) rfl (fun ls hl => ?_)
  refine lv_iconst (v := 0) hx hb (zat zrX12_whole_0_ok 2 rfl) (by decide) ?_
  refine lv_istore_n (lv' := [(3, .int 0), (1, .long 1), (0, .ref a0)]) hx hb (zat zrX12_whole_0_ok 3 rfl) rfl hl (by decide) rfl (fun ls hl => ?_)
  have L4 : ∀ (n4 : Nat) (v4_l3 : Int32) (v4_l1 : Int64) (H : Heap) (locs : List Loc) (ls : Array Slot), f_X12_whole_L4 m_v q_q n4 v4_l3 v4_l1 = some out → va_P (dC, dI) vwCl ((a0, .inr (9, [g6, g7, g8, .ref a1, g9, g10, g11, g12, g13, g14, g15, g16, g17, g18, g19, .ref a2, g20, g21, g22, g23, g24, g25, g26, g27, g28, g29, g30, g31, g32, g33])) :: bX11 a1 uq kq q_q ([(a2, .inl (cB35, 26, .inl m_v))])) H → va_D A ((a0, .inr (9, [g6, g7, g8, .ref a1, g9, g10, g11, g12, g13, g14, g15, g16, g17, g18, g19, .ref a2, g20, g21, g22, g23, g24, g25, g26, g27, g28, g29, g30, g31, g32, g33])) :: bX11 a1 uq kq q_q ([(a2, .inl (cB35, 26, .inl m_v))])) → va_S A s.heap H locs → lv_has ls 4 [(3, .int v4_l3), (1, .long v4_l1), (0, .ref a0)] → W p l e (headSpec vfX12_whole { frames := 0, cells := 0, slots := 0, locals := 0 }).room s m ([.ref a0]).toArray below meth c H locs 0 0 QQ (F0 m 4 ls []) := by
    intro n4
    induction n4 with
    | zero =>
      intro v4_l3 v4_l1 H locs ls h  _ _ _ _
      rw [f_X12_whole_L4] at h
      cases h
    | succ n4 ih4 =>
      intro v4_l3 v4_l1 H locs ls h  hP hD hS hl
      rw [f_X12_whole_L4] at h
      refine lv_iload_n hx hb (zat zrX12_whole_0_ok 4 rfl) rfl (lv_at hl 0 rfl) ?_
      refine lv_aload_n hx hb (zat zrX12_whole_0_ok 5 rfl) rfl (lv_at hl 2 rfl) ?_
      refine va_get (D := (dC, dI)) (ci := 9) (v := .ref a1) (C := RX12) (T := TX12) (N := 30) hx hb hts ifX12_whole_X12 hown hK hP 0 rfl rfl 3 (by decide) (hts (.fieldLink RX12 299 "HookPierModel" "pier" "LHookPierModel$Pier;") (List.mem_of_getElem? (i := 1) rfl)) (fun _ h9 => h9) rfl (zat zrX12_whole_0_ok 6 rfl) ?_
      refine va_getN (D := (dC, dI)) (ci := 8) (v := .int q_q.2.2.2.2.2.2.1) (C := RX11) (T := TX11) (N := 24) hx hb hts ifX12_whole_X11 hown hK hP 1 rfl rfl 6 (by decide) (va_Nw.use rfl (hN.1 (.fieldLinkNest RX12 231 "HookPierModel$Pier" "answers" "I" "HookPierModel") (List.mem_of_getElem? (i := 28) rfl))) (fun _ h9 => h9) rfl (zat zrX12_whole_0_ok 7 rfl) ?_
      refine lv_icmp_ge (tgt := 42) hx hb (zat zrX12_whole_0_ok 8 rfl) (by decide) (fun c12 => ?_) (fun c12 => ?_)
      · have h := (if_pos c12).symm.trans h
        refine lv_lload_n hx hb (zat zrX12_whole_0_ok 24 rfl) rfl (lv_at hl 1 rfl) ?_
        obtain rfl := Option.some.inj h
        obtain ⟨hP9, hD9⟩ := pd_sub ((a0, .inr (9, [g6, g7, g8, .ref a1, g9, g10, g11, g12, g13, g14, g15, g16, g17, g18, g19, .ref a2, g20, g21, g22, g23, g24, g25, g26, g27, g28, g29, g30, g31, g32, g33])) :: bX11 a1 uq kq q_q ([(a2, .inl (cB35, 26, .inl m_v))])) [0, 1, 2, 3, 4, 5, 6, 7, 8, 9, 10, 11, 12, 13, 14, 15, 16] hP hD (by decide) rfl
        have hK9 := hK.sub (tys' := []) [] rfl
        rw [hQQ]
        exact W.lret (v := v4_l1) hx hb hr (fun t ht hW => ⟨⟨v4_l1, (), rfl, rfl, by rw [ht]; exact hP9, va_K.moved hW.alike hK9, hD9⟩, hS.F ht⟩) hS.2.2 (zat zrX12_whole_0_ok 25 rfl)
      · have h := (if_neg c12).symm.trans h
        refine lv_lload_n hx hb (zat zrX12_whole_0_ok 9 rfl) rfl (lv_at hl 1 rfl) ?_
        refine lv_aload_n hx hb (zat zrX12_whole_0_ok 10 rfl) rfl (lv_at hl 2 rfl) ?_
        refine va_get (D := (dC, dI)) (ci := 9) (v := .ref a2) (C := RX12) (T := TX12) (N := 30) hx hb hts ifX12_whole_X12 hown hK hP 0 rfl rfl 15 (by decide) (hts (.fieldLink RX12 17 "HookPierModel" "v" "[I") (List.mem_of_getElem? (i := 2) rfl)) (fun _ h9 => h9) rfl (zat zrX12_whole_0_ok 11 rfl) ?_
        refine lv_iconst (v := 0) hx hb (zat zrX12_whole_0_ok 12 rfl) (by decide) ?_
        refine lv_iload_n hx hb (zat zrX12_whole_0_ok 13 rfl) rfl (lv_at hl 0 rfl) ?_
        refine lv_iadd hx hb (zat zrX12_whole_0_ok 14 rfl) ?_
        obtain ⟨hg23, h⟩ := gA_of h
        refine va_iald hx hb hK hP 16 14 rfl rfl hg23 (zat zrX12_whole_0_ok 15 rfl) ?_
        have J34 : ∀ (v34_t1 : Int64) (H : Heap) (locs : List Loc) (ls : Array Slot), f_X12_whole_J34 (f_X12_whole_L4 m_v q_q n4) v4_l1 v4_l3 v34_t1 = some out → va_P (dC, dI) vwCl ((a0, .inr (9, [g6, g7, g8, .ref a1, g9, g10, g11, g12, g13, g14, g15, g16, g17, g18, g19, .ref a2, g20, g21, g22, g23, g24, g25, g26, g27, g28, g29, g30, g31, g32, g33])) :: bX11 a1 uq kq q_q ([(a2, .inl (cB35, 26, .inl m_v))])) H → va_D A ((a0, .inr (9, [g6, g7, g8, .ref a1, g9, g10, g11, g12, g13, g14, g15, g16, g17, g18, g19, .ref a2, g20, g21, g22, g23, g24, g25, g26, g27, g28, g29, g30, g31, g32, g33])) :: bX11 a1 uq kq q_q ([(a2, .inl (cB35, 26, .inl m_v))])) → va_S A s.heap H locs → lv_has ls 4 [(3, .int v4_l3), (0, .ref a0)] → W p l e (headSpec vfX12_whole { frames := 0, cells := 0, slots := 0, locals := 0 }).room s m ([.ref a0]).toArray below meth c H locs 0 0 QQ (F0 m 34 ls [.long v34_t1, .long v4_l1]) := by
          intro v34_t1 H locs ls h  hP hD hS hl
          rw [f_X12_whole_J34] at h
          refine lv_lmul hx hb (zat zrX12_whole_0_ok 20 rfl) ?_
          refine lv_lstore_n (lv' := [(1, .long (v4_l1 * v34_t1)), (3, .int v4_l3), (0, .ref a0)]) hx hb (zat zrX12_whole_0_ok 21 rfl) rfl hl (by decide) rfl (fun ls hl => ?_)
          refine lv_iinc (v := (v4_l3 + (1 : Int32))) (lv' := [(3, .int (v4_l3 + (1 : Int32))), (1, .long (v4_l1 * v34_t1)), (0, .ref a0)]) hx hb (zat zrX12_whole_0_ok 22 rfl) hl (k := 1) rfl rfl (by decide) rfl (fun ls hl => ?_)
          refine lv_goto (tgt := 4) hx hb (zat zrX12_whole_0_ok 23 rfl) (by decide) ?_
          exact ih4 (v4_l3 + (1 : Int32)) (v4_l1 * v34_t1) H _ ls h  hP hD hS (lv_sub hl [0, 1, 2] rfl)
        refine lv_if_ne (tgt := 33) hx hb (zat zrX12_whole_0_ok 16 rfl) (by decide) (fun c24 => ?_) (fun c24 => ?_)
        · have h := (if_neg c24).symm.trans h
          refine lv_lconst (v := 1) hx hb (zat zrX12_whole_0_ok 19 rfl) (by decide) ?_
          exact J34 (1 : Int64) H _ ls h  hP hD hS (lv_sub hl [0, 2] rfl)
        · have h := (if_pos c24).symm.trans h
          refine lv_ldc2 hx hb hown (hts (.constantLong RX12 344 (100)) (List.mem_of_getElem? (i := 3) rfl)) (zat zrX12_whole_0_ok 17 rfl) ?_
          refine lv_goto (tgt := 34) hx hb (zat zrX12_whole_0_ok 18 rfl) (by decide) ?_
          exact J34 (100 : Int64) H _ ls h  hP hD hS (lv_sub hl [0, 2] rfl)
  exact L4 FU (0 : Int32) (1 : Int64) s.heap _ ls h  hP hD hS (lv_sub hl [0, 1, 2] rfl)
noncomputable def zrX12_common_0 : List ZR := zc 0 true (.lload_n 0) 1 (zc 1 true (.lstore 4) 2 (zc 3 true (.lload_n 2) 1 (zc 4 true (.lstore 6) 2 (zc 6 true (.lload 6) 2 (zc 8 true (.lconst 0) 1 (zc 9 true (.lcmp) 1 (zc 10 true (.ifCond .eq 21) 3 (zc 13 true (.lload 4) 2 (zc 15 true (.lload 6) 2 (zc 17 true (.lrem) 1 (zc 18 true (.lstore 8) 2 (zc 20 true (.lload 6) 2 (zc 22 true (.lstore 4) 2 (zc 24 true (.lload 8) 2 (zc 26 true (.lstore 6) 2 (zc 28 true (.goto (-22)) 3 (zc 31 true (.lload 4) 2 (zc 33 true (.lreturn) 1 ([])))))))))))))))))))
theorem zrX12_common_0_ok : zck 0 ((zby cX12_common).drop 0) zrX12_common_0 = true := by decide +kernel
def vfX12_common : List Cond := .code yX12_common cX12_common 10 (some .long) :: ([])
theorem qfX12_common : Good vfX12_common := gd_cons (by decide +kernel) (gd_dec (by decide +kernel) : Good [])
set_option maxHeartbeats 2000000 in
set_option maxRecDepth 100000 in
theorem kfX12_common (l : Launch) (dC : Nat → ClassId) (dI : Nat → Nat → Nat) (k0 : Int64) (k1 : Int64) (sz : Nat) (out : Int64) (h : f_X12_common k0 k1 = some out) : KDl l yX12_common vfX12_common ({ frames := 0, cells := 0, slots := 0, locals := 0 }) (dC, dI) [.long k0, .long k1] sz [] ([]) (fun (r : Int64) _ => r = out) 0 0 := by
  refine Met.ofW (cc := cX12_common) (maxL := 10) (ret := (some .long)) (by decide) rfl ?_
  intro p e s m args below meth c s₁ B0 hml hv
  obtain ⟨rfl, hsz, hP, hK, hD0, hN⟩ := hv
  have hx := B0.exec
  have hb := B0.bytes
  have hr := B0.returns
  have hts := atoms_spec (ws := vfX12_common) B0.pre
  have hown : s.vm.findClass RX12 = some m.cls := findClass_of_methodNamed B0.named
  have hlocks := B0.notSynchronized
  subst hsz
  have hD := hD0.self (sz := s.heap.size)
  generalize hAe : va_A [] s.heap.size = A at hD ⊢
  have hA : ∀ q : Nat, s.heap.size ≤ q → A q := fun q h => by rw [← hAe]; exact Or.inr h
  have hS : va_S A s.heap s.heap [] := va_S.rf
  have hP : va_P (dC, dI) vwCl [] s.heap := hP
  have hl := lv_entry ([.long k0, .long k1]) (n := 10) (Nat.le_of_ble_eq_true rfl)
  rw [lg_entry_eq]
  generalize (lg_sl ([.long k0, .long k1]) ++ List.replicate (10 - (lg_sl ([.long k0, .long k1])).length) Slot.unset).toArray = ls at hl ⊢
  have hl : lv_has ls 10 [(0, .long k0), (2, .long k1)] := hl
  refine W_q (fun QQ hQQ => ?_)
  rw [f_X12_common] at h
  refine lv_lload_n hx hb (zat zrX12_common_0_ok 0 rfl) rfl (lv_at hl 0 rfl) ?_
  refine lv_lstore (lv' := [(4, .long k0), (0, .long k0), (2, .long k1)]) hx hb (zat zrX12_common_0_ok 1 rfl) hl (by decide) rfl (fun ls hl => ?_)
  refine lv_lload_n hx hb (zat zrX12_common_0_ok 2 rfl) rfl (lv_at hl 2 rfl) ?_
  refine lv_lstore (lv' := [(6, .long k1), (4, .long k0), (0, .long k0), (2, .long k1)]) hx hb (zat zrX12_common_0_ok 3 rfl) hl (by decide) rfl (fun ls hl => ?_)
  have L6 : ∀ (n6 : Nat) (v6_l6 : Int64) (v6_l4 : Int64) (H : Heap) (locs : List Loc) (ls : Array Slot), f_X12_common_L6 n6 v6_l6 v6_l4 = some out → va_P (dC, dI) vwCl [] H → va_D A [] → va_S A s.heap H locs → lv_has ls 10 [(6, .long v6_l6), (4, .long v6_l4)] → W p l e (headSpec vfX12_common { frames := 0, cells := 0, slots := 0, locals := 0 }).room s m ([.long k0, .long k1]).toArray below meth c H locs 0 0 QQ (F0 m 6 ls []) := by
    intro n6
    induction n6 with
    | zero =>
      intro v6_l6 v6_l4 H locs ls h  _ _ _ _
      rw [f_X12_common_L6] at h
      cases h
    | succ n6 ih6 =>
      intro v6_l6 v6_l4 H locs ls h  hP hD hS hl
      rw [f_X12_common_L6] at h
      refine lv_lload hx hb (zat zrX12_common_0_ok 4 rfl) (lv_at hl 0 rfl) ?_
      refine lv_lconst (v := 0) hx hb (zat zrX12_common_0_ok 5 rfl) (by decide) ?_
      refine W.lcmp hx hb (zat zrX12_common_0_ok 6 rfl) ?_
      refine lv_if_eq (tgt := 31) hx hb (zat zrX12_common_0_ok 7 rfl) (by decide) (fun c10 => ?_) (fun c10 => ?_)
      · have h := (if_pos c10).symm.trans h
        refine lv_lload hx hb (zat zrX12_common_0_ok 17 rfl) (lv_at hl 1 rfl) ?_
        obtain rfl := Option.some.inj h
        obtain ⟨hP9, hD9⟩ := pd_sub [] [] hP hD (by decide) rfl
        have hK9 := hK.sub (tys' := []) [] rfl
        rw [hQQ]
        exact W.lret (v := v6_l4) hx hb hr (fun t ht hW => ⟨⟨v6_l4, (), rfl, rfl, by rw [ht]; exact hP9, va_K.moved hW.alike hK9, hD9⟩, hS.F ht⟩) hS.2.2 (zat zrX12_common_0_ok 18 rfl)
      · have h := (if_neg c10).symm.trans h
        refine lv_lload hx hb (zat zrX12_common_0_ok 8 rfl) (lv_at hl 1 rfl) ?_
        refine lv_lload hx hb (zat zrX12_common_0_ok 9 rfl) (lv_at hl 0 rfl) ?_
        obtain ⟨hg17, h⟩ := gZl_of h
        refine lv_lrem hx hb (zat zrX12_common_0_ok 10 rfl) hg17 ?_
        refine lv_lstore (lv' := [(8, .long (v6_l4 - v6_l4 / v6_l6 * v6_l6)), (6, .long v6_l6), (4, .long v6_l4)]) hx hb (zat zrX12_common_0_ok 11 rfl) hl (by decide) rfl (fun ls hl => ?_)
        refine lv_lload hx hb (zat zrX12_common_0_ok 12 rfl) (lv_at hl 1 rfl) ?_
        refine lv_lstore (lv' := [(4, .long v6_l6), (8, .long (v6_l4 - v6_l4 / v6_l6 * v6_l6)), (6, .long v6_l6)]) hx hb (zat zrX12_common_0_ok 13 rfl) hl (by decide) rfl (fun ls hl => ?_)
        refine lv_lload hx hb (zat zrX12_common_0_ok 14 rfl) (lv_at hl 1 rfl) ?_
        refine lv_lstore (lv' := [(6, .long (v6_l4 - v6_l4 / v6_l6 * v6_l6)), (4, .long v6_l6), (8, .long (v6_l4 - v6_l4 / v6_l6 * v6_l6))]) hx hb (zat zrX12_common_0_ok 15 rfl) hl (by decide) rfl (fun ls hl => ?_)
        refine lv_goto (tgt := 6) hx hb (zat zrX12_common_0_ok 16 rfl) (by decide) ?_
        exact ih6 (v6_l4 - v6_l4 / v6_l6 * v6_l6) v6_l6 H _ ls h  hP hD hS (lv_sub hl [0, 1] rfl)
  exact L6 FU k1 k0 s.heap _ ls h  hP hD hS (lv_sub hl [0, 1] rfl)
noncomputable def zrX12_fraction_0 : List ZR := zc 0 true (.aload_n 0) 1 (zc 1 true (.iconst 0) 1 (zc 2 true (.invokevirtual 46) 3 (zc 5 true (.pop) 1 (zc 6 true (.iload 5) 2 (zc 8 true (.ifCond .eq 7) 3 (zc 11 true (.lload_n 3) 1 (zc 12 true (.goto 4) 3 (zc 15 true (.lload_n 1) 1 (zc 16 true (.lload_n 1) 1 (zc 17 true (.lload_n 3) 1 (zc 18 true (.invokestatic 49) 3 (zc 21 true (.ldiv) 1 (zc 22 true (.lreturn) 1 ([]))))))))))))))
theorem zrX12_fraction_0_ok : zck 0 ((zby cX12_fraction).drop 0) zrX12_fraction_0 = true := by decide +kernel
def vfX12_fraction : List Cond := List.cons (.code yX12_fraction cX12_fraction 6 (some .long)) (apW [.methodLink RX12 46 yX12_good, .instanceMethod yX12_good, .selects RX12 yX12_good yX12_good, .initialized RX12, .methodLink RX12 49 yX12_common, .static yX12_common] (apW vfX12_good (vfX12_common)))
theorem qfX12_fraction : Good vfX12_fraction := gd_cons (by decide +kernel) (gd_app (gd_dec (by decide +kernel) : Good [.methodLink RX12 46 yX12_good, .instanceMethod yX12_good, .selects RX12 yX12_good yX12_good, .initialized RX12, .methodLink RX12 49 yX12_common, .static yX12_common]) (gd_app qfX12_good qfX12_common))
theorem gfX12_fraction_0 : GoodIn vfX12_fraction (wsV RX12 46 RX12 yX12_good vfX12_good) := goodIn_app (goodIn_r [.methodLink RX12 46 yX12_good, .instanceMethod yX12_good, .selects RX12 yX12_good yX12_good, .initialized RX12] [1, 2, 3, 4] rfl (by decide +kernel)) (goodIn_m (fun _ h => (List.mem_cons_of_mem _ (List.mem_append_right _ (List.mem_append_left _ h)))) qfX12_good)
theorem gfX12_fraction_1 : GoodIn vfX12_fraction (va_wsS RX12 49 yX12_common vfX12_common) := goodIn_app (goodIn_r [.methodLink RX12 49 yX12_common, .static yX12_common, .initialized RX12] [5, 6, 4] rfl (by decide +kernel)) (goodIn_m (fun _ h => (List.mem_cons_of_mem _ (List.mem_append_right _ (List.mem_append_right _ h)))) qfX12_common)
set_option maxHeartbeats 2000000 in
set_option maxRecDepth 100000 in
theorem kfX12_fraction (l : Launch) (dC : Nat → ClassId) (dI : Nat → Nat → Nat) (a0 : Nat) (k1 : Int64) (k2 : Int64) (k3 : Int32) (m_t : TX12_t) (g5 : Value) (g6 : Value) (g7 : Value) (g8 : Value) (g9 : Value) (g10 : Value) (g11 : Value) (g12 : Value) (g13 : Value) (g14 : Value) (g15 : Value) (g16 : Value) (g17 : Value) (g18 : Value) (g19 : Value) (g20 : Value) (g21 : Value) (g22 : Value) (g23 : Value) (g24 : Value) (g25 : Value) (g26 : Value) (g27 : Value) (g28 : Value) (g29 : Value) (g30 : Value) (g31 : Value) (sz : Nat) (out : (Int64 × TX12_t)) (h : f_X12_fraction k1 k2 k3 m_t = some out) : KCl l yX12_fraction vfX12_fraction ({ frames := 1, cells := 0, slots := 0, locals := 29 }) (dC, dI) [.ref a0, .long k1, .long k2, .int k3] sz ([(a0, .inr (9, [.int m_t.1, .int m_t.2.1, .int m_t.2.2, g5, g6, g7, g8, g9, g10, g11, g12, g13, g14, g15, g16, g17, g18, g19, g20, g21, g22, g23, g24, g25, g26, g27, g28, g29, g30, g31]))]) ([]) (fun (r : Int64) _ => r = out.1) ([(a0, .inr (9, [.int out.2.1, .int out.2.2.1, .int out.2.2.2, g5, g6, g7, g8, g9, g10, g11, g12, g13, g14, g15, g16, g17, g18, g19, g20, g21, g22, g23, g24, g25, g26, g27, g28, g29, g30, g31]))]) 0 0 := by
  refine Met.ofW (cc := cX12_fraction) (maxL := 6) (ret := (some .long)) (by decide) rfl ?_
  intro p e s m args below meth c s₁ B0 hml hv
  obtain ⟨rfl, hsz, hP, hK, hD0, hN⟩ := hv
  have hx := B0.exec
  have hb := B0.bytes
  have hr := B0.returns
  have hts := atoms_spec (ws := vfX12_fraction) B0.pre
  have hown : s.vm.findClass RX12 = some m.cls := findClass_of_methodNamed B0.named
  have hlocks := B0.notSynchronized
  subst hsz
  have hD := hD0.self (sz := s.heap.size)
  generalize hAe : va_A ([(a0, .inr (9, [.int m_t.1, .int m_t.2.1, .int m_t.2.2, g5, g6, g7, g8, g9, g10, g11, g12, g13, g14, g15, g16, g17, g18, g19, g20, g21, g22, g23, g24, g25, g26, g27, g28, g29, g30, g31]))]) s.heap.size = A at hD ⊢
  have hA : ∀ q : Nat, s.heap.size ≤ q → A q := fun q h => by rw [← hAe]; exact Or.inr h
  have hS : va_S A s.heap s.heap [] := va_S.rf
  have hP : va_P (dC, dI) vwCl ([(a0, .inr (9, [.int m_t.1, .int m_t.2.1, .int m_t.2.2, g5, g6, g7, g8, g9, g10, g11, g12, g13, g14, g15, g16, g17, g18, g19, g20, g21, g22, g23, g24, g25, g26, g27, g28, g29, g30, g31]))]) s.heap := hP
  have hl := lv_entry ([.ref a0, .long k1, .long k2, .int k3]) (n := 6) (Nat.le_of_ble_eq_true rfl)
  rw [lg_entry_eq]
  generalize (lg_sl ([.ref a0, .long k1, .long k2, .int k3]) ++ List.replicate (6 - (lg_sl ([.ref a0, .long k1, .long k2, .int k3])).length) Slot.unset).toArray = ls at hl ⊢
  have hl : lv_has ls 6 [(0, .ref a0), (1, .long k1), (3, .long k2), (5, .int k3)] := hl
  refine W_q (fun QQ hQQ => ?_)
  rw [f_X12_fraction] at h
  refine lv_aload_n hx hb (zat zrX12_fraction_0_ok 0 rfl) rfl (lv_at hl 0 rfl) ?_
  refine lv_iconst (v := 0) hx hb (zat zrX12_fraction_0_ok 1 rfl) (by decide) ?_
  obtain ⟨o2, eo2⟩ : ∃ o, o = f_X12_good (0 : Int32) m_t := ⟨_, rfl⟩
  have h := nm_of h o2 eo2
  refine ck_i (wc := ([(a0, .inr (9, [.int m_t.1, .int m_t.2.1, .int m_t.2.2, g5, g6, g7, g8, g9, g10, g11, g12, g13, g14, g15, g16, g17, g18, g19, g20, g21, g22, g23, g24, g25, g26, g27, g28, g29, g30, g31]))])) (wr := []) hP hD hK hS hA [0] [] rfl rfl (by decide) (by decide) (by decide) (fun hPc hDc => (va_runV (As := [.int 0]) (rest := []) ⟨hx, hb, hml, hown, hts⟩ (kfX12_good l dC dI a0 (0 : Int32) m_t (g5) (g6) (g7) (g8) (g9) (g10) (g11) (g12) (g13) (g14) (g15) (g16) (g17) (g18) (g19) (g20) (g21) (g22) (g23) (g24) (g25) (g26) (g27) (g28) (g29) (g30) (g31) s.heap.size o2 eo2.symm) (cwV 1 hts gfX12_fraction_0 rfl rfl rfl (by decide +kernel) ⟨(Nat.le_of_ble_eq_true rfl), (Nat.le_of_ble_eq_true rfl)⟩) (PV hPc (hK.sub (tys' := ([])) [] rfl) hDc hN 0 rfl rfl) rfl rfl hl.1 rfl (lv_room (Nat.le_of_ble_eq_true rfl)) (zat zrX12_fraction_0_ok 2 rfl) ⟨(Nat.le_of_ble_eq_true rfl), (Nat.le_of_ble_eq_true rfl)⟩)) (fun r2 _ H locs hw hP hD _ hS => ?_)
  obtain rfl := hw
  obtain ⟨hP, hD⟩ := pd_mk ([(a0, .inr (9, [.int o2.2.1, .int o2.2.2.1, .int o2.2.2.2, g5, g6, g7, g8, g9, g10, g11, g12, g13, g14, g15, g16, g17, g18, g19, g20, g21, g22, g23, g24, g25, g26, g27, g28, g29, g30, g31]))]) hP hD
  refine lv_pop hx hb (zat zrX12_fraction_0_ok 3 rfl) rfl ?_
  refine lv_iload hx hb (zat zrX12_fraction_0_ok 4 rfl) (lv_at hl 3 rfl) ?_
  have J16 : ∀ (v16_t0 : Int64) (H : Heap) (locs : List Loc) (ls : Array Slot), f_X12_fraction_J16 k1 k2 o2 v16_t0 = some out → va_P (dC, dI) vwCl ([(a0, .inr (9, [.int o2.2.1, .int o2.2.2.1, .int o2.2.2.2, g5, g6, g7, g8, g9, g10, g11, g12, g13, g14, g15, g16, g17, g18, g19, g20, g21, g22, g23, g24, g25, g26, g27, g28, g29, g30, g31]))]) H → va_D A ([(a0, .inr (9, [.int o2.2.1, .int o2.2.2.1, .int o2.2.2.2, g5, g6, g7, g8, g9, g10, g11, g12, g13, g14, g15, g16, g17, g18, g19, g20, g21, g22, g23, g24, g25, g26, g27, g28, g29, g30, g31]))]) → va_S A s.heap H locs → lv_has ls 6 [(1, .long k1), (3, .long k2)] → W p l e (headSpec vfX12_fraction { frames := 1, cells := 0, slots := 0, locals := 29 }).room s m ([.ref a0, .long k1, .long k2, .int k3]).toArray below meth c H locs 0 0 QQ (F0 m 16 ls [.long v16_t0]) := by
    intro v16_t0 H locs ls h  hP hD hS hl
    rw [f_X12_fraction_J16] at h
    refine lv_lload_n hx hb (zat zrX12_fraction_0_ok 9 rfl) rfl (lv_at hl 0 rfl) ?_
    refine lv_lload_n hx hb (zat zrX12_fraction_0_ok 10 rfl) rfl (lv_at hl 1 rfl) ?_
    obtain ⟨o18, eo18, h⟩ := bd_of h
    refine ck_l (wc := []) (wr := ([(a0, .inr (9, [.int o2.2.1, .int o2.2.2.1, .int o2.2.2.2, g5, g6, g7, g8, g9, g10, g11, g12, g13, g14, g15, g16, g17, g18, g19, g20, g21, g22, g23, g24, g25, g26, g27, g28, g29, g30, g31]))])) hP hD hK hS hA [] [0] rfl rfl (by decide) (by decide) (by decide) (fun hPc hDc => (va_runS (As := [.long k1, .long k2]) (rest := [.long v16_t0]) ⟨hx, hb, hml, hown, hts⟩ (kfX12_common l dC dI k1 k2 H.size o18 eo18) (va_cwS 2 hts gfX12_fraction_1 rfl rfl rfl (by decide +kernel) ⟨(Nat.le_of_ble_eq_true rfl), (Nat.le_of_ble_eq_true rfl)⟩) (PS hPc (hK.sub (tys' := ([])) [] rfl) hDc hN) rfl rfl hl.1 rfl (lv_room (Nat.le_of_ble_eq_true rfl)) (zat zrX12_fraction_0_ok 11 rfl) ⟨(Nat.le_of_ble_eq_true rfl), (Nat.le_of_ble_eq_true rfl)⟩)) (fun r18 _ H locs hw hP hD _ hS => ?_)
    obtain rfl := hw.symm
    obtain ⟨hP, hD⟩ := pd_mk ([(a0, .inr (9, [.int o2.2.1, .int o2.2.2.1, .int o2.2.2.2, g5, g6, g7, g8, g9, g10, g11, g12, g13, g14, g15, g16, g17, g18, g19, g20, g21, g22, g23, g24, g25, g26, g27, g28, g29, g30, g31]))]) hP hD
    obtain ⟨hg21, h⟩ := gZl_of h
    refine lv_ldiv hx hb (zat zrX12_fraction_0_ok 12 rfl) hg21 ?_
    obtain rfl := Option.some.inj h
    obtain ⟨hP9, hD9⟩ := pd_sub ([(a0, .inr (9, [.int o2.2.1, .int o2.2.2.1, .int o2.2.2.2, g5, g6, g7, g8, g9, g10, g11, g12, g13, g14, g15, g16, g17, g18, g19, g20, g21, g22, g23, g24, g25, g26, g27, g28, g29, g30, g31]))]) [0] hP hD (by decide) rfl
    have hK9 := hK.sub (tys' := []) [] rfl
    rw [hQQ]
    exact W.lret (v := (v16_t0 / o18)) hx hb hr (fun t ht hW => ⟨⟨(v16_t0 / o18), (), rfl, rfl, by rw [ht]; exact hP9, va_K.moved hW.alike hK9, hD9⟩, hS.F ht⟩) hS.2.2 (zat zrX12_fraction_0_ok 13 rfl)
  refine lv_if_eq (tgt := 15) hx hb (zat zrX12_fraction_0_ok 5 rfl) (by decide) (fun c8 => ?_) (fun c8 => ?_)
  · have h := (if_pos c8).symm.trans h
    refine lv_lload_n hx hb (zat zrX12_fraction_0_ok 8 rfl) rfl (lv_at hl 1 rfl) ?_
    exact J16 k1 H _ ls h  hP hD hS (lv_sub hl [1, 2] rfl)
  · have h := (if_neg c8).symm.trans h
    refine lv_lload_n hx hb (zat zrX12_fraction_0_ok 6 rfl) rfl (lv_at hl 2 rfl) ?_
    refine lv_goto (tgt := 16) hx hb (zat zrX12_fraction_0_ok 7 rfl) (by decide) ?_
    exact J16 k2 H _ ls h  hP hD hS (lv_sub hl [1, 2] rfl)
noncomputable def zrX12_takes_0 : List ZR := zc 0 true (.aload_n 0) 1 (zc 1 true (.iconst 0) 1 (zc 2 true (.putfield 36) 3 (zc 5 true (.aload_n 0) 1 (zc 6 true (.aload_n 0) 1 (zc 7 true (.iload_n 1) 1 (zc 8 true (.invokevirtual 320) 3 (zc 11 true (.iload_n 2) 1 (zc 12 true (.iload_n 3) 1 (zc 13 true (.iload 4) 2 (zc 15 true (.invokevirtual 353) 3 (zc 18 true (.istore 6) 2 (zc 20 true (.iload 6) 2 (zc 22 true (.ifCond .le 13) 3 (zc 25 true (.aload_n 0) 1 (zc 26 true (.iload 6) 2 (zc 28 true (.invokevirtual 42) 3 (zc 31 true (.i2l) 1 (zc 32 true (.goto 26) 3 (zc 35 true (.aload_n 0) 1 (zc 36 true (.aload_n 0) 1 (zc 37 true (.iload_n 1) 1 (zc 38 true (.aload_n 0) 1 (zc 39 true (.iload_n 2) 1 (zc 40 true (.iload_n 3) 1 (zc 41 true (.iload 4) 2 (zc 43 true (.invokevirtual 357) 3 (zc 46 true (.invokevirtual 349) 3 (zc 49 true (.aload_n 0) 1 (zc 50 true (.invokevirtual 360) 3 (zc 53 true (.iload 5) 2 (zc 55 true (.invokevirtual 363) 3 (zc 58 true (.lreturn) 1 ([])))))))))))))))))))))))))))))))))
theorem zrX12_takes_0_ok : zck 0 ((zby cX12_takes).drop 0) zrX12_takes_0 = true := by decide +kernel
def vfX12_takes : List Cond := List.cons (.code yX12_takes cX12_takes 7 (some .long)) (apW [.fieldLink RX12 36 "HookPierModel" "thrown" "I", .methodLink RX12 320 yX12_isAnswer, .instanceMethod yX12_isAnswer, .selects RX12 yX12_isAnswer yX12_isAnswer, .initialized RX12, .methodLink RX12 353 yX12_refusesQuestion, .instanceMethod yX12_refusesQuestion, .selects RX12 yX12_refusesQuestion yX12_refusesQuestion, .methodLink RX12 357 yX12_question, .instanceMethod yX12_question, .selects RX12 yX12_question yX12_question, .methodLink RX12 349 yX12_oddsOf, .instanceMethod yX12_oddsOf, .selects RX12 yX12_oddsOf yX12_oddsOf, .methodLink RX12 360 yX12_whole, .instanceMethod yX12_whole, .selects RX12 yX12_whole yX12_whole, .methodLink RX12 363 yX12_fraction, .instanceMethod yX12_fraction, .selects RX12 yX12_fraction yX12_fraction, .methodLink RX12 42 yX12_refused, .instanceMethod yX12_refused, .selects RX12 yX12_refused yX12_refused] (apW wsX120 (apW vfX12_isAnswer (apW vfX12_refusesQuestion (apW vfX12_question (apW vfX12_oddsOf (apW vfX12_whole (apW vfX12_fraction (vfX12_refused)))))))))
theorem ifX12_takes_X12 : ∀ w ∈ wsX120, w ∈ vfX12_takes := fun _ h => (List.mem_cons_of_mem _ (List.mem_append_right _ (List.mem_append_left _ h)))
theorem qfX12_takes : Good vfX12_takes := gd_cons (by decide +kernel) (gd_app (gd_dec (by decide +kernel) : Good [.fieldLink RX12 36 "HookPierModel" "thrown" "I", .methodLink RX12 320 yX12_isAnswer, .instanceMethod yX12_isAnswer, .selects RX12 yX12_isAnswer yX12_isAnswer, .initialized RX12, .methodLink RX12 353 yX12_refusesQuestion, .instanceMethod yX12_refusesQuestion, .selects RX12 yX12_refusesQuestion yX12_refusesQuestion, .methodLink RX12 357 yX12_question, .instanceMethod yX12_question, .selects RX12 yX12_question yX12_question, .methodLink RX12 349 yX12_oddsOf, .instanceMethod yX12_oddsOf, .selects RX12 yX12_oddsOf yX12_oddsOf, .methodLink RX12 360 yX12_whole, .instanceMethod yX12_whole, .selects RX12 yX12_whole yX12_whole, .methodLink RX12 363 yX12_fraction, .instanceMethod yX12_fraction, .selects RX12 yX12_fraction yX12_fraction, .methodLink RX12 42 yX12_refused, .instanceMethod yX12_refused, .selects RX12 yX12_refused yX12_refused]) (gd_app qsX12 (gd_app qfX12_isAnswer (gd_app qfX12_refusesQuestion (gd_app qfX12_question (gd_app qfX12_oddsOf (gd_app qfX12_whole (gd_app qfX12_fraction qfX12_refused))))))))
theorem gfX12_takes_0 : GoodIn vfX12_takes (wsV RX12 320 RX12 yX12_isAnswer vfX12_isAnswer) := goodIn_app (goodIn_r [.methodLink RX12 320 yX12_isAnswer, .instanceMethod yX12_isAnswer, .selects RX12 yX12_isAnswer yX12_isAnswer, .initialized RX12] [2, 3, 4, 5] rfl (by decide +kernel)) (goodIn_m (fun _ h => (List.mem_cons_of_mem _ (List.mem_append_right _ (List.mem_append_right _ (List.mem_append_left _ h))))) qfX12_isAnswer)
theorem gfX12_takes_1 : GoodIn vfX12_takes (wsV RX12 353 RX12 yX12_refusesQuestion vfX12_refusesQuestion) := goodIn_app (goodIn_r [.methodLink RX12 353 yX12_refusesQuestion, .instanceMethod yX12_refusesQuestion, .selects RX12 yX12_refusesQuestion yX12_refusesQuestion, .initialized RX12] [6, 7, 8, 5] rfl (by decide +kernel)) (goodIn_m (fun _ h => (List.mem_cons_of_mem _ (List.mem_append_right _ (List.mem_append_right _ (List.mem_append_right _ (List.mem_append_left _ h)))))) qfX12_refusesQuestion)
theorem gfX12_takes_2 : GoodIn vfX12_takes (wsV RX12 357 RX12 yX12_question vfX12_question) := goodIn_app (goodIn_r [.methodLink RX12 357 yX12_question, .instanceMethod yX12_question, .selects RX12 yX12_question yX12_question, .initialized RX12] [9, 10, 11, 5] rfl (by decide +kernel)) (goodIn_m (fun _ h => (List.mem_cons_of_mem _ (List.mem_append_right _ (List.mem_append_right _ (List.mem_append_right _ (List.mem_append_right _ (List.mem_append_left _ h))))))) qfX12_question)
theorem gfX12_takes_3 : GoodIn vfX12_takes (wsV RX12 349 RX12 yX12_oddsOf vfX12_oddsOf) := goodIn_app (goodIn_r [.methodLink RX12 349 yX12_oddsOf, .instanceMethod yX12_oddsOf, .selects RX12 yX12_oddsOf yX12_oddsOf, .initialized RX12] [12, 13, 14, 5] rfl (by decide +kernel)) (goodIn_m (fun _ h => (List.mem_cons_of_mem _ (List.mem_append_right _ (List.mem_append_right _ (List.mem_append_right _ (List.mem_append_right _ (List.mem_append_right _ (List.mem_append_left _ h)))))))) qfX12_oddsOf)
theorem gfX12_takes_4 : GoodIn vfX12_takes (wsV RX12 360 RX12 yX12_whole vfX12_whole) := goodIn_app (goodIn_r [.methodLink RX12 360 yX12_whole, .instanceMethod yX12_whole, .selects RX12 yX12_whole yX12_whole, .initialized RX12] [15, 16, 17, 5] rfl (by decide +kernel)) (goodIn_m (fun _ h => (List.mem_cons_of_mem _ (List.mem_append_right _ (List.mem_append_right _ (List.mem_append_right _ (List.mem_append_right _ (List.mem_append_right _ (List.mem_append_right _ (List.mem_append_left _ h))))))))) qfX12_whole)
theorem gfX12_takes_5 : GoodIn vfX12_takes (wsV RX12 363 RX12 yX12_fraction vfX12_fraction) := goodIn_app (goodIn_r [.methodLink RX12 363 yX12_fraction, .instanceMethod yX12_fraction, .selects RX12 yX12_fraction yX12_fraction, .initialized RX12] [18, 19, 20, 5] rfl (by decide +kernel)) (goodIn_m (fun _ h => (List.mem_cons_of_mem _ (List.mem_append_right _ (List.mem_append_right _ (List.mem_append_right _ (List.mem_append_right _ (List.mem_append_right _ (List.mem_append_right _ (List.mem_append_right _ (List.mem_append_left _ h)))))))))) qfX12_fraction)
theorem gfX12_takes_6 : GoodIn vfX12_takes (wsV RX12 42 RX12 yX12_refused vfX12_refused) := goodIn_app (goodIn_r [.methodLink RX12 42 yX12_refused, .instanceMethod yX12_refused, .selects RX12 yX12_refused yX12_refused, .initialized RX12] [21, 22, 23, 5] rfl (by decide +kernel)) (goodIn_m (fun _ h => (List.mem_cons_of_mem _ (List.mem_append_right _ (List.mem_append_right _ (List.mem_append_right _ (List.mem_append_right _ (List.mem_append_right _ (List.mem_append_right _ (List.mem_append_right _ (List.mem_append_right _ h)))))))))) qfX12_refused)
set_option maxHeartbeats 2000000 in
set_option maxRecDepth 100000 in
theorem kfX12_takes (l : Launch) (dC : Nat → ClassId) (dI : Nat → Nat → Nat) (a0 : Nat) (k1 : Int32) (k2 : Int32) (k3 : Int32) (k4 : Int32) (k5 : Int32) (a6 : Nat) (a7 : Nat) (uq : Nat → Nat) (kq : Nat → ClassId) (m_t : TX12_t) (m_v : TX12_v) (g12 : Value) (g13 : Value) (g14 : Value) (g15 : Value) (g16 : Value) (g17 : Value) (g18 : Value) (g19 : Value) (g20 : Value) (g21 : Value) (g22 : Value) (g23 : Value) (g24 : Value) (g25 : Value) (g26 : Value) (g27 : Value) (g28 : Value) (g29 : Value) (g30 : Value) (g31 : Value) (g32 : Value) (g33 : Value) (g34 : Value) (g35 : Value) (g36 : Value) (q_q : TX11_q) (cB38 : ClassId) (sz : Nat) (out : (Int64 × TX12_t)) (h : f_X12_takes k1 k2 k3 k4 k5 m_t m_v q_q = some out) : KCl l yX12_takes vfX12_takes ({ frames := 5, cells := 0, slots := 0, locals := 118 }) (dC, dI) [.ref a0, .int k1, .int k2, .int k3, .int k4, .int k5] sz ((a0, .inr (9, [.int m_t.1, .int m_t.2.1, .int m_t.2.2, .ref a6, g12, g13, g14, g15, g16, g17, g18, g19, g20, g21, g22, .ref a7, g23, g24, g25, g26, g27, g28, g29, g30, g31, g32, g33, g34, g35, g36])) :: bX11 a6 uq kq q_q ([(a7, .inl (cB38, 26, .inl m_v))])) (tX11 kq ((cB38, .int) :: [])) (fun (r : Int64) _ => r = out.1) ((a0, .inr (9, [.int out.2.1, .int out.2.2.1, .int out.2.2.2, .ref a6, g12, g13, g14, g15, g16, g17, g18, g19, g20, g21, g22, .ref a7, g23, g24, g25, g26, g27, g28, g29, g30, g31, g32, g33, g34, g35, g36])) :: bX11 a6 uq kq q_q ([(a7, .inl (cB38, 26, .inl m_v))])) 0 0 := by
  refine Met.ofW (cc := cX12_takes) (maxL := 7) (ret := (some .long)) (by decide) rfl ?_
  intro p e s m args below meth c s₁ B0 hml hv
  obtain ⟨rfl, hsz, hP, hK, hD0, hN⟩ := hv
  have hx := B0.exec
  have hb := B0.bytes
  have hr := B0.returns
  have hts := atoms_spec (ws := vfX12_takes) B0.pre
  have hown : s.vm.findClass RX12 = some m.cls := findClass_of_methodNamed B0.named
  have hlocks := B0.notSynchronized
  subst hsz
  have hD := hD0.self (sz := s.heap.size)
  generalize hAe : va_A ((a0, .inr (9, [.int m_t.1, .int m_t.2.1, .int m_t.2.2, .ref a6, g12, g13, g14, g15, g16, g17, g18, g19, g20, g21, g22, .ref a7, g23, g24, g25, g26, g27, g28, g29, g30, g31, g32, g33, g34, g35, g36])) :: bX11 a6 uq kq q_q ([(a7, .inl (cB38, 26, .inl m_v))])) s.heap.size = A at hD ⊢
  have hA : ∀ q : Nat, s.heap.size ≤ q → A q := fun q h => by rw [← hAe]; exact Or.inr h
  have hS : va_S A s.heap s.heap [] := va_S.rf
  have hP : va_P (dC, dI) vwCl ((a0, .inr (9, [.int m_t.1, .int m_t.2.1, .int m_t.2.2, .ref a6, g12, g13, g14, g15, g16, g17, g18, g19, g20, g21, g22, .ref a7, g23, g24, g25, g26, g27, g28, g29, g30, g31, g32, g33, g34, g35, g36])) :: bX11 a6 uq kq q_q ([(a7, .inl (cB38, 26, .inl m_v))])) s.heap := hP
  have hl := lv_entry ([.ref a0, .int k1, .int k2, .int k3, .int k4, .int k5]) (n := 7) (Nat.le_of_ble_eq_true rfl)
  rw [lg_entry_eq]
  generalize (lg_sl ([.ref a0, .int k1, .int k2, .int k3, .int k4, .int k5]) ++ List.replicate (7 - (lg_sl ([.ref a0, .int k1, .int k2, .int k3, .int k4, .int k5])).length) Slot.unset).toArray = ls at hl ⊢
  have hl : lv_has ls 7 [(0, .ref a0), (1, .int k1), (2, .int k2), (3, .int k3), (4, .int k4), (5, .int k5)] := hl
  refine W_q (fun QQ hQQ => ?_)
  rw [f_X12_takes] at h
  refine lv_aload_n hx hb (zat zrX12_takes_0_ok 0 rfl) rfl (lv_at hl 0 rfl) ?_
  refine lv_iconst (v := 0) hx hb (zat zrX12_takes_0_ok 1 rfl) (by decide) ?_
  refine va_put (D := (dC, dI)) (ci := 9) (v := .int 0) (ty := .int) (C := RX12) (T := TX12) (N := 30) hx hb hts ifX12_takes_X12 tyX12 tyX12_ok nmX12 hown hK hP hD hS 0 rfl rfl 0 (by decide) (hts (.fieldLink RX12 36 "HookPierModel" "thrown" "I") (List.mem_of_getElem? (i := 1) rfl)) (fun _ h9 => h9) rfl (by decide +kernel) rfl rfl (Nat.le_of_ble_eq_true rfl) (zat zrX12_takes_0_ok 2 rfl) (fun H locs hP hD hS => ?_)
  obtain ⟨hP, hD⟩ := pd_mk ((a0, .inr (9, [.int 0, .int m_t.2.1, .int m_t.2.2, .ref a6, g12, g13, g14, g15, g16, g17, g18, g19, g20, g21, g22, .ref a7, g23, g24, g25, g26, g27, g28, g29, g30, g31, g32, g33, g34, g35, g36])) :: bX11 a6 uq kq q_q ([(a7, .inl (cB38, 26, .inl m_v))])) hP hD
  refine lv_aload_n hx hb (zat zrX12_takes_0_ok 3 rfl) rfl (lv_at hl 0 rfl) ?_
  refine lv_aload_n hx hb (zat zrX12_takes_0_ok 4 rfl) rfl (lv_at hl 0 rfl) ?_
  refine lv_iload_n hx hb (zat zrX12_takes_0_ok 5 rfl) rfl (lv_at hl 1 rfl) ?_
  obtain ⟨o8, eo8⟩ : ∃ o, o = f_X12_isAnswer k1 q_q := ⟨_, rfl⟩
  have h := nm_of h o8 eo8
  refine ck_i (wc := ((a0, .inr (9, [.int 0, .int m_t.2.1, .int m_t.2.2, .ref a6, g12, g13, g14, g15, g16, g17, g18, g19, g20, g21, g22, .ref a7, g23, g24, g25, g26, g27, g28, g29, g30, g31, g32, g33, g34, g35, g36])) :: bX11 a6 uq kq q_q [])) (wr := ([(a7, .inl (cB38, 26, .inl m_v))])) hP hD hK hS hA [0, 1, 2, 3, 4, 5, 6, 7, 8, 9, 10, 11, 12, 13, 14, 15] [16] rfl rfl (by decide) (by decide) (by decide) (fun hPc hDc => (va_runV (As := [.int k1]) (rest := [.ref a0]) ⟨hx, hb, hml, hown, hts⟩ (kfX12_isAnswer l dC dI a0 k1 a6 uq kq (.int 0) (.int m_t.2.1) (.int m_t.2.2) (g12) (g13) (g14) (g15) (g16) (g17) (g18) (g19) (g20) (g21) (g22) (.ref a7) (g23) (g24) (g25) (g26) (g27) (g28) (g29) (g30) (g31) (g32) (g33) (g34) (g35) (g36) q_q H.size o8 eo8.symm) (cwV 1 hts gfX12_takes_0 rfl rfl rfl (by decide +kernel) ⟨(Nat.le_of_ble_eq_true rfl), (Nat.le_of_ble_eq_true rfl)⟩) (PV hPc (hK.sub (tys' := (tX11 kq ([]))) [0, 1, 2, 3, 4, 5, 6, 7, 8, 9, 10, 11, 12, 13] rfl) hDc hN 0 rfl rfl) rfl rfl hl.1 rfl (lv_room (Nat.le_of_ble_eq_true rfl)) (zat zrX12_takes_0_ok 6 rfl) ⟨(Nat.le_of_ble_eq_true rfl), (Nat.le_of_ble_eq_true rfl)⟩)) (fun r8 _ H locs hw hP hD _ hS => ?_)
  obtain ⟨hw, br8⟩ := hw
  obtain rfl := hw.symm
  obtain ⟨hP, hD⟩ := pd_mk ((a7, .inl (cB38, 26, .inl m_v)) :: (a0, .inr (9, [.int 0, .int m_t.2.1, .int m_t.2.2, .ref a6, g12, g13, g14, g15, g16, g17, g18, g19, g20, g21, g22, .ref a7, g23, g24, g25, g26, g27, g28, g29, g30, g31, g32, g33, g34, g35, g36])) :: bX11 a6 uq kq q_q []) hP hD
  refine lv_iload_n hx hb (zat zrX12_takes_0_ok 7 rfl) rfl (lv_at hl 2 rfl) ?_
  refine lv_iload_n hx hb (zat zrX12_takes_0_ok 8 rfl) rfl (lv_at hl 3 rfl) ?_
  refine lv_iload hx hb (zat zrX12_takes_0_ok 9 rfl) (lv_at hl 4 rfl) ?_
  obtain ⟨o15, eo15⟩ : ∃ o, o = f_X12_refusesQuestion o8 k2 k3 k4 q_q := ⟨_, rfl⟩
  have h := nm_of h o15 eo15
  refine ck_i (wc := ((a0, .inr (9, [.int 0, .int m_t.2.1, .int m_t.2.2, .ref a6, g12, g13, g14, g15, g16, g17, g18, g19, g20, g21, g22, .ref a7, g23, g24, g25, g26, g27, g28, g29, g30, g31, g32, g33, g34, g35, g36])) :: bX11 a6 uq kq q_q [])) (wr := ([(a7, .inl (cB38, 26, .inl m_v))])) hP hD hK hS hA [1, 2, 3, 4, 5, 6, 7, 8, 9, 10, 11, 12, 13, 14, 15, 16] [0] rfl rfl (by decide) (by decide) (by decide) (fun hPc hDc => (va_runV (As := [.int o8, .int k2, .int k3, .int k4]) (rest := []) ⟨hx, hb, hml, hown, hts⟩ (kfX12_refusesQuestion l dC dI a0 o8 k2 k3 k4 a6 uq kq (.int 0) (.int m_t.2.1) (.int m_t.2.2) (g12) (g13) (g14) (g15) (g16) (g17) (g18) (g19) (g20) (g21) (g22) (.ref a7) (g23) (g24) (g25) (g26) (g27) (g28) (g29) (g30) (g31) (g32) (g33) (g34) (g35) (g36) q_q H.size o15 eo15.symm) (cwV 4 hts gfX12_takes_1 rfl rfl rfl (by decide +kernel) ⟨(Nat.le_of_ble_eq_true rfl), (Nat.le_of_ble_eq_true rfl)⟩) (PV hPc (hK.sub (tys' := (tX11 kq ([]))) [0, 1, 2, 3, 4, 5, 6, 7, 8, 9, 10, 11, 12, 13] rfl) hDc hN 0 rfl rfl) rfl rfl hl.1 rfl (lv_room (Nat.le_of_ble_eq_true rfl)) (zat zrX12_takes_0_ok 10 rfl) ⟨(Nat.le_of_ble_eq_true rfl), (Nat.le_of_ble_eq_true rfl)⟩)) (fun r15 _ H locs hw hP hD _ hS => ?_)
  obtain rfl := hw.symm
  obtain ⟨hP, hD⟩ := pd_mk ((a7, .inl (cB38, 26, .inl m_v)) :: (a0, .inr (9, [.int 0, .int m_t.2.1, .int m_t.2.2, .ref a6, g12, g13, g14, g15, g16, g17, g18, g19, g20, g21, g22, .ref a7, g23, g24, g25, g26, g27, g28, g29, g30, g31, g32, g33, g34, g35, g36])) :: bX11 a6 uq kq q_q []) hP hD
  refine lv_istore (lv' := [(6, .int o15), (0, .ref a0), (1, .int k1), (2, .int k2), (3, .int k3), (4, .int k4), (5, .int k5)]) hx hb (zat zrX12_takes_0_ok 11 rfl) hl (by decide) rfl (fun ls hl => ?_)
  refine lv_iload hx hb (zat zrX12_takes_0_ok 12 rfl) (lv_at hl 0 rfl) ?_
  refine lv_if_le (tgt := 35) hx hb (zat zrX12_takes_0_ok 13 rfl) (by decide) (fun c22 => ?_) (fun c22 => ?_)
  · have h := (if_pos c22).symm.trans h
    refine lv_aload_n hx hb (zat zrX12_takes_0_ok 19 rfl) rfl (lv_at hl 1 rfl) ?_
    refine lv_aload_n hx hb (zat zrX12_takes_0_ok 20 rfl) rfl (lv_at hl 1 rfl) ?_
    refine lv_iload_n hx hb (zat zrX12_takes_0_ok 21 rfl) rfl (lv_at hl 2 rfl) ?_
    refine lv_aload_n hx hb (zat zrX12_takes_0_ok 22 rfl) rfl (lv_at hl 1 rfl) ?_
    refine lv_iload_n hx hb (zat zrX12_takes_0_ok 23 rfl) rfl (lv_at hl 3 rfl) ?_
    refine lv_iload_n hx hb (zat zrX12_takes_0_ok 24 rfl) rfl (lv_at hl 4 rfl) ?_
    refine lv_iload hx hb (zat zrX12_takes_0_ok 25 rfl) (lv_at hl 5 rfl) ?_
    obtain ⟨o43, eo43⟩ : ∃ o, o = f_X12_question k2 k3 k4 q_q := ⟨_, rfl⟩
    have h := nm_of h o43 eo43
    refine ck_i (wc := ((a0, .inr (9, [.int 0, .int m_t.2.1, .int m_t.2.2, .ref a6, g12, g13, g14, g15, g16, g17, g18, g19, g20, g21, g22, .ref a7, g23, g24, g25, g26, g27, g28, g29, g30, g31, g32, g33, g34, g35, g36])) :: bX11 a6 uq kq q_q [])) (wr := ([(a7, .inl (cB38, 26, .inl m_v))])) hP hD hK hS hA [1, 2, 3, 4, 5, 6, 7, 8, 9, 10, 11, 12, 13, 14, 15, 16] [0] rfl rfl (by decide) (by decide) (by decide) (fun hPc hDc => (va_runV (As := [.int k2, .int k3, .int k4]) (rest := [.int k1, .ref a0, .ref a0]) ⟨hx, hb, hml, hown, hts⟩ (kfX12_question l dC dI a0 k2 k3 k4 a6 uq kq (.int 0) (.int m_t.2.1) (.int m_t.2.2) (g12) (g13) (g14) (g15) (g16) (g17) (g18) (g19) (g20) (g21) (g22) (.ref a7) (g23) (g24) (g25) (g26) (g27) (g28) (g29) (g30) (g31) (g32) (g33) (g34) (g35) (g36) q_q H.size o43 eo43.symm) (cwV 3 hts gfX12_takes_2 rfl rfl rfl (by decide +kernel) ⟨(Nat.le_of_ble_eq_true rfl), (Nat.le_of_ble_eq_true rfl)⟩) (PV hPc (hK.sub (tys' := (tX11 kq ([]))) [0, 1, 2, 3, 4, 5, 6, 7, 8, 9, 10, 11, 12, 13] rfl) hDc hN 0 rfl rfl) rfl rfl hl.1 rfl (lv_room (Nat.le_of_ble_eq_true rfl)) (zat zrX12_takes_0_ok 26 rfl) ⟨(Nat.le_of_ble_eq_true rfl), (Nat.le_of_ble_eq_true rfl)⟩)) (fun r43 _ H locs hw hP hD _ hS => ?_)
    obtain rfl := hw.symm
    obtain ⟨hP, hD⟩ := pd_mk ((a7, .inl (cB38, 26, .inl m_v)) :: (a0, .inr (9, [.int 0, .int m_t.2.1, .int m_t.2.2, .ref a6, g12, g13, g14, g15, g16, g17, g18, g19, g20, g21, g22, .ref a7, g23, g24, g25, g26, g27, g28, g29, g30, g31, g32, g33, g34, g35, g36])) :: bX11 a6 uq kq q_q []) hP hD
    obtain ⟨o46, eo46, h⟩ := bd_of h
    refine ck_l (wc := ((a0, .inr (9, [.int 0, .int m_t.2.1, .int m_t.2.2, .ref a6, g12, g13, g14, g15, g16, g17, g18, g19, g20, g21, g22, .ref a7, g23, g24, g25, g26, g27, g28, g29, g30, g31, g32, g33, g34, g35, g36])) :: bX11 a6 uq kq q_q ([(a7, .inl (cB38, 26, .inl m_v))]))) (wr := []) hP hD hK hS hA [1, 2, 3, 4, 5, 6, 7, 8, 9, 10, 11, 12, 13, 14, 15, 16, 0] [] rfl rfl (by decide) (by decide) (by decide) (fun hPc hDc => (va_runV (As := [.int k1, .int o43]) (rest := [.ref a0]) ⟨hx, hb, hml, hown, hts⟩ (kfX12_oddsOf l dC dI a0 k1 o43 a6 a7 uq kq m_v (.int 0) (.int m_t.2.1) (.int m_t.2.2) (g12) (g13) (g14) (g15) (g16) (g17) (g18) (g19) (g20) (g21) (g22) (g23) (g24) (g25) (g26) (g27) (g28) (g29) (g30) (g31) (g32) (g33) (g34) (g35) (g36) q_q cB38 H.size o46 eo46) (cwV 2 hts gfX12_takes_3 rfl rfl rfl (by decide +kernel) ⟨(Nat.le_of_ble_eq_true rfl), (Nat.le_of_ble_eq_true rfl)⟩) (PV hPc (hK.sub (tys' := (tX11 kq ((cB38, .int) :: []))) [0, 1, 2, 3, 4, 5, 6, 7, 8, 9, 10, 11, 12, 13, 14] rfl) hDc hN 0 rfl rfl) rfl rfl hl.1 rfl (lv_room (Nat.le_of_ble_eq_true rfl)) (zat zrX12_takes_0_ok 27 rfl) ⟨(Nat.le_of_ble_eq_true rfl), (Nat.le_of_ble_eq_true rfl)⟩)) (fun r46 _ H locs hw hP hD _ hS => ?_)
    obtain rfl := hw.symm
    obtain ⟨hP, hD⟩ := pd_mk ((a0, .inr (9, [.int 0, .int m_t.2.1, .int m_t.2.2, .ref a6, g12, g13, g14, g15, g16, g17, g18, g19, g20, g21, g22, .ref a7, g23, g24, g25, g26, g27, g28, g29, g30, g31, g32, g33, g34, g35, g36])) :: bX11 a6 uq kq q_q ([(a7, .inl (cB38, 26, .inl m_v))])) hP hD
    refine lv_aload_n hx hb (zat zrX12_takes_0_ok 28 rfl) rfl (lv_at hl 1 rfl) ?_
    obtain ⟨o50, eo50, h⟩ := bd_of h
    refine ck_l (wc := ((a0, .inr (9, [.int 0, .int m_t.2.1, .int m_t.2.2, .ref a6, g12, g13, g14, g15, g16, g17, g18, g19, g20, g21, g22, .ref a7, g23, g24, g25, g26, g27, g28, g29, g30, g31, g32, g33, g34, g35, g36])) :: bX11 a6 uq kq q_q ([(a7, .inl (cB38, 26, .inl m_v))]))) (wr := []) hP hD hK hS hA [0, 1, 2, 3, 4, 5, 6, 7, 8, 9, 10, 11, 12, 13, 14, 15, 16] [] rfl rfl (by decide) (by decide) (by decide) (fun hPc hDc => (va_runV (As := []) (rest := [.long o46, .ref a0]) ⟨hx, hb, hml, hown, hts⟩ (kfX12_whole l dC dI a0 a6 a7 uq kq m_v (.int 0) (.int m_t.2.1) (.int m_t.2.2) (g12) (g13) (g14) (g15) (g16) (g17) (g18) (g19) (g20) (g21) (g22) (g23) (g24) (g25) (g26) (g27) (g28) (g29) (g30) (g31) (g32) (g33) (g34) (g35) (g36) q_q cB38 H.size o50 eo50) (cwV 0 hts gfX12_takes_4 rfl rfl rfl (by decide +kernel) ⟨(Nat.le_of_ble_eq_true rfl), (Nat.le_of_ble_eq_true rfl)⟩) (PV hPc (hK.sub (tys' := (tX11 kq ((cB38, .int) :: []))) [0, 1, 2, 3, 4, 5, 6, 7, 8, 9, 10, 11, 12, 13, 14] rfl) hDc hN 0 rfl rfl) rfl rfl hl.1 rfl (lv_room (Nat.le_of_ble_eq_true rfl)) (zat zrX12_takes_0_ok 29 rfl) ⟨(Nat.le_of_ble_eq_true rfl), (Nat.le_of_ble_eq_true rfl)⟩)) (fun r50 _ H locs hw hP hD _ hS => ?_)
    obtain rfl := hw.symm
    obtain ⟨hP, hD⟩ := pd_mk ((a0, .inr (9, [.int 0, .int m_t.2.1, .int m_t.2.2, .ref a6, g12, g13, g14, g15, g16, g17, g18, g19, g20, g21, g22, .ref a7, g23, g24, g25, g26, g27, g28, g29, g30, g31, g32, g33, g34, g35, g36])) :: bX11 a6 uq kq q_q ([(a7, .inl (cB38, 26, .inl m_v))])) hP hD
    refine lv_iload hx hb (zat zrX12_takes_0_ok 30 rfl) (lv_at hl 6 rfl) ?_
    obtain ⟨o55, eo55, h⟩ := bd_of h
    refine ck_l (wc := ([(a0, .inr (9, [.int 0, .int m_t.2.1, .int m_t.2.2, .ref a6, g12, g13, g14, g15, g16, g17, g18, g19, g20, g21, g22, .ref a7, g23, g24, g25, g26, g27, g28, g29, g30, g31, g32, g33, g34, g35, g36]))])) (wr := (bX11 a6 uq kq q_q ([(a7, .inl (cB38, 26, .inl m_v))]))) hP hD hK hS hA [0] [1, 2, 3, 4, 5, 6, 7, 8, 9, 10, 11, 12, 13, 14, 15, 16] rfl rfl (by decide) (by decide) (by decide) (fun hPc hDc => (va_runV (As := [.long o46, .long o50, .int k5]) (rest := []) ⟨hx, hb, hml, hown, hts⟩ (kfX12_fraction l dC dI a0 o46 o50 k5 ((0 : Int32), m_t.2) (.ref a6) (g12) (g13) (g14) (g15) (g16) (g17) (g18) (g19) (g20) (g21) (g22) (.ref a7) (g23) (g24) (g25) (g26) (g27) (g28) (g29) (g30) (g31) (g32) (g33) (g34) (g35) (g36) H.size o55 eo55) (cwV 3 hts gfX12_takes_5 rfl rfl rfl (by decide +kernel) ⟨(Nat.le_of_ble_eq_true rfl), (Nat.le_of_ble_eq_true rfl)⟩) (PV hPc (hK.sub (tys' := ([])) [] rfl) hDc hN 0 rfl rfl) rfl rfl hl.1 rfl (lv_room (Nat.le_of_ble_eq_true rfl)) (zat zrX12_takes_0_ok 31 rfl) ⟨(Nat.le_of_ble_eq_true rfl), (Nat.le_of_ble_eq_true rfl)⟩)) (fun r55 _ H locs hw hP hD _ hS => ?_)
    obtain rfl := hw
    obtain ⟨hP, hD⟩ := pd_mk (bX11 a6 uq kq q_q ([(a7, .inl (cB38, 26, .inl m_v)), (a0, .inr (9, [.int o55.2.1, .int o55.2.2.1, .int o55.2.2.2, .ref a6, g12, g13, g14, g15, g16, g17, g18, g19, g20, g21, g22, .ref a7, g23, g24, g25, g26, g27, g28, g29, g30, g31, g32, g33, g34, g35, g36]))])) hP hD
    obtain rfl := Option.some.inj h
    obtain ⟨hP9, hD9⟩ := pd_sub ((a0, .inr (9, [.int o55.2.1, .int o55.2.2.1, .int o55.2.2.2, .ref a6, g12, g13, g14, g15, g16, g17, g18, g19, g20, g21, g22, .ref a7, g23, g24, g25, g26, g27, g28, g29, g30, g31, g32, g33, g34, g35, g36])) :: bX11 a6 uq kq q_q ([(a7, .inl (cB38, 26, .inl m_v))])) [16, 0, 1, 2, 3, 4, 5, 6, 7, 8, 9, 10, 11, 12, 13, 14, 15] hP hD (by decide) rfl
    have hK9 := hK.sub (tys' := []) [] rfl
    rw [hQQ]
    exact W.lret (v := o55.1) hx hb hr (fun t ht hW => ⟨⟨o55.1, (), rfl, rfl, by rw [ht]; exact hP9, va_K.moved hW.alike hK9, hD9⟩, hS.F ht⟩) hS.2.2 (zat zrX12_takes_0_ok 32 rfl)
  · have h := (if_neg c22).symm.trans h
    refine lv_aload_n hx hb (zat zrX12_takes_0_ok 14 rfl) rfl (lv_at hl 1 rfl) ?_
    refine lv_iload hx hb (zat zrX12_takes_0_ok 15 rfl) (lv_at hl 0 rfl) ?_
    obtain ⟨o28, eo28⟩ : ∃ o, o = f_X12_refused o15 ((0 : Int32), m_t.2) := ⟨_, rfl⟩
    have h := nm_of h o28 eo28
    refine ck_i (wc := ([(a0, .inr (9, [.int 0, .int m_t.2.1, .int m_t.2.2, .ref a6, g12, g13, g14, g15, g16, g17, g18, g19, g20, g21, g22, .ref a7, g23, g24, g25, g26, g27, g28, g29, g30, g31, g32, g33, g34, g35, g36]))])) (wr := ((a7, .inl (cB38, 26, .inl m_v)) :: bX11 a6 uq kq q_q [])) hP hD hK hS hA [1] [0, 2, 3, 4, 5, 6, 7, 8, 9, 10, 11, 12, 13, 14, 15, 16] rfl rfl (by decide) (by decide) (by decide) (fun hPc hDc => (va_runV (As := [.int o15]) (rest := []) ⟨hx, hb, hml, hown, hts⟩ (kfX12_refused l dC dI a0 o15 ((0 : Int32), m_t.2) (.ref a6) (g12) (g13) (g14) (g15) (g16) (g17) (g18) (g19) (g20) (g21) (g22) (.ref a7) (g23) (g24) (g25) (g26) (g27) (g28) (g29) (g30) (g31) (g32) (g33) (g34) (g35) (g36) H.size o28 eo28.symm) (cwV 1 hts gfX12_takes_6 rfl rfl rfl (by decide +kernel) ⟨(Nat.le_of_ble_eq_true rfl), (Nat.le_of_ble_eq_true rfl)⟩) (PV hPc (hK.sub (tys' := ([])) [] rfl) hDc hN 0 rfl rfl) rfl rfl hl.1 rfl (lv_room (Nat.le_of_ble_eq_true rfl)) (zat zrX12_takes_0_ok 16 rfl) ⟨(Nat.le_of_ble_eq_true rfl), (Nat.le_of_ble_eq_true rfl)⟩)) (fun r28 _ H locs hw hP hD _ hS => ?_)
    obtain rfl := hw
    obtain ⟨hP, hD⟩ := pd_mk ((a7, .inl (cB38, 26, .inl m_v)) :: bX11 a6 uq kq q_q ([(a0, .inr (9, [.int o28.1, .int o28.2.1, .int o28.2.2, .ref a6, g12, g13, g14, g15, g16, g17, g18, g19, g20, g21, g22, .ref a7, g23, g24, g25, g26, g27, g28, g29, g30, g31, g32, g33, g34, g35, g36]))])) hP hD
    refine lv_i2l (v := (-1)) hx hb (zat zrX12_takes_0_ok 17 rfl) (by decide) ?_
    refine lv_goto (tgt := 58) hx hb (zat zrX12_takes_0_ok 18 rfl) (by decide) ?_
    obtain rfl := Option.some.inj h
    obtain ⟨hP9, hD9⟩ := pd_sub ((a0, .inr (9, [.int o28.1, .int o28.2.1, .int o28.2.2, .ref a6, g12, g13, g14, g15, g16, g17, g18, g19, g20, g21, g22, .ref a7, g23, g24, g25, g26, g27, g28, g29, g30, g31, g32, g33, g34, g35, g36])) :: bX11 a6 uq kq q_q ([(a7, .inl (cB38, 26, .inl m_v))])) [16, 1, 2, 3, 4, 5, 6, 7, 8, 9, 10, 11, 12, 13, 14, 15, 0] hP hD (by decide) rfl
    have hK9 := hK.sub (tys' := []) [] rfl
    rw [hQQ]
    exact W.lret (v := (-1 : Int64)) hx hb hr (fun t ht hW => ⟨⟨(-1 : Int64), (), rfl, rfl, by rw [ht]; exact hP9, va_K.moved hW.alike hK9, hD9⟩, hS.F ht⟩) hS.2.2 (zat zrX12_takes_0_ok 32 rfl)
noncomputable def zrX12_noOdds_0 : List ZR := zc 0 true (.lconst 1) 1 (zc 1 true (.lstore_n 2) 1 (zc 2 true (.iconst 0) 1 (zc 3 true (.istore 4) 2 (zc 5 true (.iload 4) 2 (zc 7 true (.aload_n 0) 1 (zc 8 true (.getfield 299) 3 (zc 11 true (.getfield 231) 3 (zc 14 true (.if_icmp .ge 36) 3 (zc 17 true (.aload_n 0) 1 (zc 18 true (.getfield 17) 3 (zc 21 true (.iconst 0) 1 (zc 22 true (.iload 4) 2 (zc 24 true (.iadd) 1 (zc 25 true (.iaload) 1 (zc 26 true (.ifCond .ne 18) 3 (zc 29 true (.lload_n 2) 1 (zc 30 true (.ldc2_w 344) 3 (zc 33 true (.aload_n 0) 1 (zc 34 true (.iload 4) 2 (zc 36 true (.iload_n 1) 1 (zc 37 true (.invokevirtual 346) 3 (zc 40 true (.i2l) 1 (zc 41 true (.lsub) 1 (zc 42 true (.lmul) 1 (zc 43 true (.lstore_n 2) 1 (zc 44 true (.iinc 4 1) 3 (zc 47 true (.goto (-42)) 3 (zc 50 true (.lload_n 2) 1 (zc 51 true (.lreturn) 1 ([]))))))))))))))))))))))))))))))
theorem zrX12_noOdds_0_ok : zck 0 ((zby cX12_noOdds).drop 0) zrX12_noOdds_0 = true := by decide +kernel
def vfX12_noOdds : List Cond := List.cons (.code yX12_noOdds cX12_noOdds 5 (some .long)) (apW [.fieldLink RX12 299 "HookPierModel" "pier" "LHookPierModel$Pier;", .fieldLink RX12 17 "HookPierModel" "v" "[I", .constantLong RX12 344 (100), .methodLink RX12 346 yX12_wishOf, .instanceMethod yX12_wishOf, .selects RX12 yX12_wishOf yX12_wishOf, .initialized RX12] (apW wsX120 (apW wsX110 (vfX12_wishOf))))
theorem ifX12_noOdds_X12 : ∀ w ∈ wsX120, w ∈ vfX12_noOdds := fun _ h => (List.mem_cons_of_mem _ (List.mem_append_right _ (List.mem_append_left _ h)))
theorem ifX12_noOdds_X11 : ∀ w ∈ wsX110, w ∈ vfX12_noOdds := fun _ h => (List.mem_cons_of_mem _ (List.mem_append_right _ (List.mem_append_right _ (List.mem_append_left _ h))))
theorem qfX12_noOdds : Good vfX12_noOdds := gd_cons (by decide +kernel) (gd_app (gd_dec (by decide +kernel) : Good [.fieldLink RX12 299 "HookPierModel" "pier" "LHookPierModel$Pier;", .fieldLink RX12 17 "HookPierModel" "v" "[I", .constantLong RX12 344 (100), .methodLink RX12 346 yX12_wishOf, .instanceMethod yX12_wishOf, .selects RX12 yX12_wishOf yX12_wishOf, .initialized RX12]) (gd_app qsX12 (gd_app qsX11 qfX12_wishOf)))
theorem gfX12_noOdds_0 : GoodIn vfX12_noOdds (wsV RX12 346 RX12 yX12_wishOf vfX12_wishOf) := goodIn_app (goodIn_r [.methodLink RX12 346 yX12_wishOf, .instanceMethod yX12_wishOf, .selects RX12 yX12_wishOf yX12_wishOf, .initialized RX12] [4, 5, 6, 7] rfl (by decide +kernel)) (goodIn_m (fun _ h => (List.mem_cons_of_mem _ (List.mem_append_right _ (List.mem_append_right _ (List.mem_append_right _ h))))) qfX12_wishOf)
set_option maxHeartbeats 2000000 in
set_option maxRecDepth 100000 in
theorem kfX12_noOdds (l : Launch) (dC : Nat → ClassId) (dI : Nat → Nat → Nat) (a0 : Nat) (k1 : Int32) (a2 : Nat) (a3 : Nat) (uq : Nat → Nat) (kq : Nat → ClassId) (m_v : TX12_v) (g7 : Value) (g8 : Value) (g9 : Value) (g10 : Value) (g11 : Value) (g12 : Value) (g13 : Value) (g14 : Value) (g15 : Value) (g16 : Value) (g17 : Value) (g18 : Value) (g19 : Value) (g20 : Value) (g21 : Value) (g22 : Value) (g23 : Value) (g24 : Value) (g25 : Value) (g26 : Value) (g27 : Value) (g28 : Value) (g29 : Value) (g30 : Value) (g31 : Value) (g32 : Value) (g33 : Value) (g34 : Value) (q_q : TX11_q) (cB36 : ClassId) (sz : Nat) (out : Int64) (h : f_X12_noOdds k1 m_v q_q = some out) : KDl l yX12_noOdds vfX12_noOdds ({ frames := 4, cells := 0, slots := 0, locals := 93 }) (dC, dI) [.ref a0, .int k1] sz ((a0, .inr (9, [g7, g8, g9, .ref a2, g10, g11, g12, g13, g14, g15, g16, g17, g18, g19, g20, .ref a3, g21, g22, g23, g24, g25, g26, g27, g28, g29, g30, g31, g32, g33, g34])) :: bX11 a2 uq kq q_q ([(a3, .inl (cB36, 26, .inl m_v))])) (tX11 kq ((cB36, .int) :: [])) (fun (r : Int64) _ => r = out) 0 0 := by
  refine Met.ofW (cc := cX12_noOdds) (maxL := 5) (ret := (some .long)) (by decide) rfl ?_
  intro p e s m args below meth c s₁ B0 hml hv
  obtain ⟨rfl, hsz, hP, hK, hD0, hN⟩ := hv
  have hx := B0.exec
  have hb := B0.bytes
  have hr := B0.returns
  have hts := atoms_spec (ws := vfX12_noOdds) B0.pre
  have hown : s.vm.findClass RX12 = some m.cls := findClass_of_methodNamed B0.named
  have hlocks := B0.notSynchronized
  subst hsz
  have hD := hD0.self (sz := s.heap.size)
  generalize hAe : va_A ((a0, .inr (9, [g7, g8, g9, .ref a2, g10, g11, g12, g13, g14, g15, g16, g17, g18, g19, g20, .ref a3, g21, g22, g23, g24, g25, g26, g27, g28, g29, g30, g31, g32, g33, g34])) :: bX11 a2 uq kq q_q ([(a3, .inl (cB36, 26, .inl m_v))])) s.heap.size = A at hD ⊢
  have hA : ∀ q : Nat, s.heap.size ≤ q → A q := fun q h => by rw [← hAe]; exact Or.inr h
  have hS : va_S A s.heap s.heap [] := va_S.rf
  have hP : va_P (dC, dI) vwCl ((a0, .inr (9, [g7, g8, g9, .ref a2, g10, g11, g12, g13, g14, g15, g16, g17, g18, g19, g20, .ref a3, g21, g22, g23, g24, g25, g26, g27, g28, g29, g30, g31, g32, g33, g34])) :: bX11 a2 uq kq q_q ([(a3, .inl (cB36, 26, .inl m_v))])) s.heap := hP
  have hl := lv_entry ([.ref a0, .int k1]) (n := 5) (Nat.le_of_ble_eq_true rfl)
  rw [lg_entry_eq]
  generalize (lg_sl ([.ref a0, .int k1]) ++ List.replicate (5 - (lg_sl ([.ref a0, .int k1])).length) Slot.unset).toArray = ls at hl ⊢
  have hl : lv_has ls 5 [(0, .ref a0), (1, .int k1)] := hl
  refine W_q (fun QQ hQQ => ?_)
  rw [f_X12_noOdds] at h
  refine lv_lconst (v := 1) hx hb (zat zrX12_noOdds_0_ok 0 rfl) (by decide) ?_
  refine lv_lstore_n (lv' := [(2, .long 1), (0, .ref a0), (1, .int k1)]) hx hb (zat zrX12_noOdds_0_ok 1 rfl) rfl hl (by decide) rfl (fun ls hl => ?_)
  refine lv_iconst (v := 0) hx hb (zat zrX12_noOdds_0_ok 2 rfl) (by decide) ?_
  refine lv_istore (lv' := [(4, .int 0), (2, .long 1), (0, .ref a0), (1, .int k1)]) hx hb (zat zrX12_noOdds_0_ok 3 rfl) hl (by decide) rfl (fun ls hl => ?_)
  have L5 : ∀ (n5 : Nat) (v5_l4 : Int32) (v5_l2 : Int64) (H : Heap) (locs : List Loc) (ls : Array Slot), f_X12_noOdds_L5 k1 m_v q_q n5 v5_l4 v5_l2 = some out → va_P (dC, dI) vwCl ((a0, .inr (9, [g7, g8, g9, .ref a2, g10, g11, g12, g13, g14, g15, g16, g17, g18, g19, g20, .ref a3, g21, g22, g23, g24, g25, g26, g27, g28, g29, g30, g31, g32, g33, g34])) :: bX11 a2 uq kq q_q ([(a3, .inl (cB36, 26, .inl m_v))])) H → va_D A ((a0, .inr (9, [g7, g8, g9, .ref a2, g10, g11, g12, g13, g14, g15, g16, g17, g18, g19, g20, .ref a3, g21, g22, g23, g24, g25, g26, g27, g28, g29, g30, g31, g32, g33, g34])) :: bX11 a2 uq kq q_q ([(a3, .inl (cB36, 26, .inl m_v))])) → va_S A s.heap H locs → lv_has ls 5 [(4, .int v5_l4), (2, .long v5_l2), (0, .ref a0), (1, .int k1)] → W p l e (headSpec vfX12_noOdds { frames := 4, cells := 0, slots := 0, locals := 93 }).room s m ([.ref a0, .int k1]).toArray below meth c H locs 0 0 QQ (F0 m 5 ls []) := by
    intro n5
    induction n5 with
    | zero =>
      intro v5_l4 v5_l2 H locs ls h  _ _ _ _
      rw [f_X12_noOdds_L5] at h
      cases h
    | succ n5 ih5 =>
      intro v5_l4 v5_l2 H locs ls h  hP hD hS hl
      rw [f_X12_noOdds_L5] at h
      refine lv_iload hx hb (zat zrX12_noOdds_0_ok 4 rfl) (lv_at hl 0 rfl) ?_
      refine lv_aload_n hx hb (zat zrX12_noOdds_0_ok 5 rfl) rfl (lv_at hl 2 rfl) ?_
      refine va_get (D := (dC, dI)) (ci := 9) (v := .ref a2) (C := RX12) (T := TX12) (N := 30) hx hb hts ifX12_noOdds_X12 hown hK hP 0 rfl rfl 3 (by decide) (hts (.fieldLink RX12 299 "HookPierModel" "pier" "LHookPierModel$Pier;") (List.mem_of_getElem? (i := 1) rfl)) (fun _ h9 => h9) rfl (zat zrX12_noOdds_0_ok 6 rfl) ?_
      refine va_getN (D := (dC, dI)) (ci := 8) (v := .int q_q.2.2.2.2.2.2.1) (C := RX11) (T := TX11) (N := 24) hx hb hts ifX12_noOdds_X11 hown hK hP 1 rfl rfl 6 (by decide) (va_Nw.use rfl (hN.1 (.fieldLinkNest RX12 231 "HookPierModel$Pier" "answers" "I" "HookPierModel") (List.mem_of_getElem? (i := 28) rfl))) (fun _ h9 => h9) rfl (zat zrX12_noOdds_0_ok 7 rfl) ?_
      refine lv_icmp_ge (tgt := 50) hx hb (zat zrX12_noOdds_0_ok 8 rfl) (by decide) (fun c14 => ?_) (fun c14 => ?_)
      · have h := (if_pos c14).symm.trans h
        refine lv_lload_n hx hb (zat zrX12_noOdds_0_ok 28 rfl) rfl (lv_at hl 1 rfl) ?_
        obtain rfl := Option.some.inj h
        obtain ⟨hP9, hD9⟩ := pd_sub ((a0, .inr (9, [g7, g8, g9, .ref a2, g10, g11, g12, g13, g14, g15, g16, g17, g18, g19, g20, .ref a3, g21, g22, g23, g24, g25, g26, g27, g28, g29, g30, g31, g32, g33, g34])) :: bX11 a2 uq kq q_q ([(a3, .inl (cB36, 26, .inl m_v))])) [0, 1, 2, 3, 4, 5, 6, 7, 8, 9, 10, 11, 12, 13, 14, 15, 16] hP hD (by decide) rfl
        have hK9 := hK.sub (tys' := []) [] rfl
        rw [hQQ]
        exact W.lret (v := v5_l2) hx hb hr (fun t ht hW => ⟨⟨v5_l2, (), rfl, rfl, by rw [ht]; exact hP9, va_K.moved hW.alike hK9, hD9⟩, hS.F ht⟩) hS.2.2 (zat zrX12_noOdds_0_ok 29 rfl)
      · have h := (if_neg c14).symm.trans h
        refine lv_aload_n hx hb (zat zrX12_noOdds_0_ok 9 rfl) rfl (lv_at hl 2 rfl) ?_
        refine va_get (D := (dC, dI)) (ci := 9) (v := .ref a3) (C := RX12) (T := TX12) (N := 30) hx hb hts ifX12_noOdds_X12 hown hK hP 0 rfl rfl 15 (by decide) (hts (.fieldLink RX12 17 "HookPierModel" "v" "[I") (List.mem_of_getElem? (i := 2) rfl)) (fun _ h9 => h9) rfl (zat zrX12_noOdds_0_ok 10 rfl) ?_
        refine lv_iconst (v := 0) hx hb (zat zrX12_noOdds_0_ok 11 rfl) (by decide) ?_
        refine lv_iload hx hb (zat zrX12_noOdds_0_ok 12 rfl) (lv_at hl 0 rfl) ?_
        refine lv_iadd hx hb (zat zrX12_noOdds_0_ok 13 rfl) ?_
        obtain ⟨hg25, h⟩ := gA_of h
        refine va_iald hx hb hK hP 16 14 rfl rfl hg25 (zat zrX12_noOdds_0_ok 14 rfl) ?_
        have J44 : ∀ (v44_l2 : Int64) (H : Heap) (locs : List Loc) (ls : Array Slot), f_X12_noOdds_J44 (f_X12_noOdds_L5 k1 m_v q_q n5) v5_l4 v44_l2 = some out → va_P (dC, dI) vwCl ((a0, .inr (9, [g7, g8, g9, .ref a2, g10, g11, g12, g13, g14, g15, g16, g17, g18, g19, g20, .ref a3, g21, g22, g23, g24, g25, g26, g27, g28, g29, g30, g31, g32, g33, g34])) :: bX11 a2 uq kq q_q ([(a3, .inl (cB36, 26, .inl m_v))])) H → va_D A ((a0, .inr (9, [g7, g8, g9, .ref a2, g10, g11, g12, g13, g14, g15, g16, g17, g18, g19, g20, .ref a3, g21, g22, g23, g24, g25, g26, g27, g28, g29, g30, g31, g32, g33, g34])) :: bX11 a2 uq kq q_q ([(a3, .inl (cB36, 26, .inl m_v))])) → va_S A s.heap H locs → lv_has ls 5 [(4, .int v5_l4), (2, .long v44_l2), (0, .ref a0), (1, .int k1)] → W p l e (headSpec vfX12_noOdds { frames := 4, cells := 0, slots := 0, locals := 93 }).room s m ([.ref a0, .int k1]).toArray below meth c H locs 0 0 QQ (F0 m 44 ls []) := by
          intro v44_l2 H locs ls h  hP hD hS hl
          rw [f_X12_noOdds_J44] at h
          refine lv_iinc (v := (v5_l4 + (1 : Int32))) (lv' := [(4, .int (v5_l4 + (1 : Int32))), (2, .long v44_l2), (0, .ref a0), (1, .int k1)]) hx hb (zat zrX12_noOdds_0_ok 26 rfl) hl (k := 0) rfl rfl (by decide) rfl (fun ls hl => ?_)
          refine lv_goto (tgt := 5) hx hb (zat zrX12_noOdds_0_ok 27 rfl) (by decide) ?_
          exact ih5 (v5_l4 + (1 : Int32)) v44_l2 H _ ls h  hP hD hS (lv_sub hl [0, 1, 2, 3] rfl)
        refine lv_if_ne (tgt := 44) hx hb (zat zrX12_noOdds_0_ok 15 rfl) (by decide) (fun c26 => ?_) (fun c26 => ?_)
        · have h := (if_neg c26).symm.trans h
          exact J44 v5_l2 H _ ls h  hP hD hS (lv_sub hl [0, 1, 2, 3] rfl)
        · have h := (if_pos c26).symm.trans h
          refine lv_lload_n hx hb (zat zrX12_noOdds_0_ok 16 rfl) rfl (lv_at hl 1 rfl) ?_
          refine lv_ldc2 hx hb hown (hts (.constantLong RX12 344 (100)) (List.mem_of_getElem? (i := 3) rfl)) (zat zrX12_noOdds_0_ok 17 rfl) ?_
          refine lv_aload_n hx hb (zat zrX12_noOdds_0_ok 18 rfl) rfl (lv_at hl 2 rfl) ?_
          refine lv_iload hx hb (zat zrX12_noOdds_0_ok 19 rfl) (lv_at hl 0 rfl) ?_
          refine lv_iload_n hx hb (zat zrX12_noOdds_0_ok 20 rfl) rfl (lv_at hl 3 rfl) ?_
          obtain ⟨o37, eo37, h⟩ := bd_of h
          refine ck_i (wc := ((a0, .inr (9, [g7, g8, g9, .ref a2, g10, g11, g12, g13, g14, g15, g16, g17, g18, g19, g20, .ref a3, g21, g22, g23, g24, g25, g26, g27, g28, g29, g30, g31, g32, g33, g34])) :: bX11 a2 uq kq q_q [])) (wr := ([(a3, .inl (cB36, 26, .inl m_v))])) hP hD hK hS hA [0, 1, 2, 3, 4, 5, 6, 7, 8, 9, 10, 11, 12, 13, 14, 15] [16] rfl rfl (by decide) (by decide) (by decide) (fun hPc hDc => (va_runV (As := [.int v5_l4, .int k1]) (rest := [.long 100, .long v5_l2]) ⟨hx, hb, hml, hown, hts⟩ (kfX12_wishOf l dC dI a0 v5_l4 k1 a2 uq kq (g7) (g8) (g9) (g10) (g11) (g12) (g13) (g14) (g15) (g16) (g17) (g18) (g19) (g20) (.ref a3) (g21) (g22) (g23) (g24) (g25) (g26) (g27) (g28) (g29) (g30) (g31) (g32) (g33) (g34) q_q H.size o37 eo37) (cwV 2 hts gfX12_noOdds_0 rfl rfl rfl (by decide +kernel) ⟨(Nat.le_of_ble_eq_true rfl), (Nat.le_of_ble_eq_true rfl)⟩) (PV hPc (hK.sub (tys' := (tX11 kq ([]))) [0, 1, 2, 3, 4, 5, 6, 7, 8, 9, 10, 11, 12, 13] rfl) hDc hN 0 rfl rfl) rfl rfl hl.1 rfl (lv_room (Nat.le_of_ble_eq_true rfl)) (zat zrX12_noOdds_0_ok 21 rfl) ⟨(Nat.le_of_ble_eq_true rfl), (Nat.le_of_ble_eq_true rfl)⟩)) (fun r37 _ H locs hw hP hD _ hS => ?_)
          obtain rfl := hw.symm
          obtain ⟨hP, hD⟩ := pd_mk ((a3, .inl (cB36, 26, .inl m_v)) :: (a0, .inr (9, [g7, g8, g9, .ref a2, g10, g11, g12, g13, g14, g15, g16, g17, g18, g19, g20, .ref a3, g21, g22, g23, g24, g25, g26, g27, g28, g29, g30, g31, g32, g33, g34])) :: bX11 a2 uq kq q_q []) hP hD
          refine lv_i2l hx hb (zat zrX12_noOdds_0_ok 22 rfl) rfl ?_
          refine lv_lsub hx hb (zat zrX12_noOdds_0_ok 23 rfl) ?_
          refine lv_lmul hx hb (zat zrX12_noOdds_0_ok 24 rfl) ?_
          refine lv_lstore_n (lv' := [(2, .long (v5_l2 * ((100 : Int64) - (o37).toInt64))), (4, .int v5_l4), (0, .ref a0), (1, .int k1)]) hx hb (zat zrX12_noOdds_0_ok 25 rfl) rfl hl (by decide) rfl (fun ls hl => ?_)
          exact J44 (v5_l2 * ((100 : Int64) - (o37).toInt64)) H _ ls h  (hP.sub (ws' := ((a0, .inr (9, [g7, g8, g9, .ref a2, g10, g11, g12, g13, g14, g15, g16, g17, g18, g19, g20, .ref a3, g21, g22, g23, g24, g25, g26, g27, g28, g29, g30, g31, g32, g33, g34])) :: bX11 a2 uq kq q_q ([(a3, .inl (cB36, 26, .inl m_v))]))) [1, 2, 3, 4, 5, 6, 7, 8, 9, 10, 11, 12, 13, 14, 15, 16, 0] rfl) (hD.sub (ws' := ((a0, .inr (9, [g7, g8, g9, .ref a2, g10, g11, g12, g13, g14, g15, g16, g17, g18, g19, g20, .ref a3, g21, g22, g23, g24, g25, g26, g27, g28, g29, g30, g31, g32, g33, g34])) :: bX11 a2 uq kq q_q ([(a3, .inl (cB36, 26, .inl m_v))]))) [1, 2, 3, 4, 5, 6, 7, 8, 9, 10, 11, 12, 13, 14, 15, 16, 0] (by decide) rfl) hS (lv_sub hl [1, 0, 2, 3] rfl)
  exact L5 FU (0 : Int32) (1 : Int64) s.heap _ ls h  hP hD hS (lv_sub hl [0, 1, 2, 3] rfl)
noncomputable def zrX12_nothing_0 : List ZR := zc 0 true (.aload_n 0) 1 (zc 1 true (.iconst 0) 1 (zc 2 true (.putfield 36) 3 (zc 5 true (.aload_n 0) 1 (zc 6 true (.aload_n 0) 1 (zc 7 true (.getfield 299) 3 (zc 10 true (.ifnull 7) 3 (zc 13 true (.iconst 1) 1 (zc 14 true (.goto 4) 3 (zc 17 false (.nop) 1 (zc 18 true (.iload_n 1) 1 (zc 19 true (.iload_n 2) 1 (zc 20 true (.iload_n 3) 1 (zc 21 true (.invokevirtual 353) 3 (zc 24 true (.istore 5) 2 (zc 26 true (.iload 5) 2 (zc 28 true (.ifCond .le 13) 3 (zc 31 true (.aload_n 0) 1 (zc 32 true (.iload 5) 2 (zc 34 true (.invokevirtual 42) 3 (zc 37 true (.i2l) 1 (zc 38 true (.goto 24) 3 (zc 41 true (.aload_n 0) 1 (zc 42 true (.aload_n 0) 1 (zc 43 true (.aload_n 0) 1 (zc 44 true (.iload_n 1) 1 (zc 45 true (.iload_n 2) 1 (zc 46 true (.iload_n 3) 1 (zc 47 true (.invokevirtual 357) 3 (zc 50 true (.invokevirtual 367) 3 (zc 53 true (.aload_n 0) 1 (zc 54 true (.invokevirtual 360) 3 (zc 57 true (.iload 4) 2 (zc 59 true (.invokevirtual 363) 3 (zc 62 true (.lreturn) 1 ([])))))))))))))))))))))))))))))))))))
theorem zrX12_nothing_0_ok : zck 0 ((zby cX12_nothing).drop 0) zrX12_nothing_0 = true := by decide +kernel
def vfX12_nothing : List Cond := List.cons (.code yX12_nothing cX12_nothing 6 (some .long)) (apW [.fieldLink RX12 36 "HookPierModel" "thrown" "I", .fieldLink RX12 299 "HookPierModel" "pier" "LHookPierModel$Pier;", .methodLink RX12 353 yX12_refusesQuestion, .instanceMethod yX12_refusesQuestion, .selects RX12 yX12_refusesQuestion yX12_refusesQuestion, .initialized RX12, .methodLink RX12 357 yX12_question, .instanceMethod yX12_question, .selects RX12 yX12_question yX12_question, .methodLink RX12 367 yX12_noOdds, .instanceMethod yX12_noOdds, .selects RX12 yX12_noOdds yX12_noOdds, .methodLink RX12 360 yX12_whole, .instanceMethod yX12_whole, .selects RX12 yX12_whole yX12_whole, .methodLink RX12 363 yX12_fraction, .instanceMethod yX12_fraction, .selects RX12 yX12_fraction yX12_fraction, .methodLink RX12 42 yX12_refused, .instanceMethod yX12_refused, .selects RX12 yX12_refused yX12_refused] (apW wsX120 (apW vfX12_refusesQuestion (apW vfX12_question (apW vfX12_noOdds (apW vfX12_whole (apW vfX12_fraction (vfX12_refused))))))))
theorem ifX12_nothing_X12 : ∀ w ∈ wsX120, w ∈ vfX12_nothing := fun _ h => (List.mem_cons_of_mem _ (List.mem_append_right _ (List.mem_append_left _ h)))
theorem qfX12_nothing : Good vfX12_nothing := gd_cons (by decide +kernel) (gd_app (gd_dec (by decide +kernel) : Good [.fieldLink RX12 36 "HookPierModel" "thrown" "I", .fieldLink RX12 299 "HookPierModel" "pier" "LHookPierModel$Pier;", .methodLink RX12 353 yX12_refusesQuestion, .instanceMethod yX12_refusesQuestion, .selects RX12 yX12_refusesQuestion yX12_refusesQuestion, .initialized RX12, .methodLink RX12 357 yX12_question, .instanceMethod yX12_question, .selects RX12 yX12_question yX12_question, .methodLink RX12 367 yX12_noOdds, .instanceMethod yX12_noOdds, .selects RX12 yX12_noOdds yX12_noOdds, .methodLink RX12 360 yX12_whole, .instanceMethod yX12_whole, .selects RX12 yX12_whole yX12_whole, .methodLink RX12 363 yX12_fraction, .instanceMethod yX12_fraction, .selects RX12 yX12_fraction yX12_fraction, .methodLink RX12 42 yX12_refused, .instanceMethod yX12_refused, .selects RX12 yX12_refused yX12_refused]) (gd_app qsX12 (gd_app qfX12_refusesQuestion (gd_app qfX12_question (gd_app qfX12_noOdds (gd_app qfX12_whole (gd_app qfX12_fraction qfX12_refused)))))))
theorem gfX12_nothing_0 : GoodIn vfX12_nothing (wsV RX12 353 RX12 yX12_refusesQuestion vfX12_refusesQuestion) := goodIn_app (goodIn_r [.methodLink RX12 353 yX12_refusesQuestion, .instanceMethod yX12_refusesQuestion, .selects RX12 yX12_refusesQuestion yX12_refusesQuestion, .initialized RX12] [3, 4, 5, 6] rfl (by decide +kernel)) (goodIn_m (fun _ h => (List.mem_cons_of_mem _ (List.mem_append_right _ (List.mem_append_right _ (List.mem_append_left _ h))))) qfX12_refusesQuestion)
theorem gfX12_nothing_1 : GoodIn vfX12_nothing (wsV RX12 357 RX12 yX12_question vfX12_question) := goodIn_app (goodIn_r [.methodLink RX12 357 yX12_question, .instanceMethod yX12_question, .selects RX12 yX12_question yX12_question, .initialized RX12] [7, 8, 9, 6] rfl (by decide +kernel)) (goodIn_m (fun _ h => (List.mem_cons_of_mem _ (List.mem_append_right _ (List.mem_append_right _ (List.mem_append_right _ (List.mem_append_left _ h)))))) qfX12_question)
theorem gfX12_nothing_2 : GoodIn vfX12_nothing (wsV RX12 367 RX12 yX12_noOdds vfX12_noOdds) := goodIn_app (goodIn_r [.methodLink RX12 367 yX12_noOdds, .instanceMethod yX12_noOdds, .selects RX12 yX12_noOdds yX12_noOdds, .initialized RX12] [10, 11, 12, 6] rfl (by decide +kernel)) (goodIn_m (fun _ h => (List.mem_cons_of_mem _ (List.mem_append_right _ (List.mem_append_right _ (List.mem_append_right _ (List.mem_append_right _ (List.mem_append_left _ h))))))) qfX12_noOdds)
theorem gfX12_nothing_3 : GoodIn vfX12_nothing (wsV RX12 360 RX12 yX12_whole vfX12_whole) := goodIn_app (goodIn_r [.methodLink RX12 360 yX12_whole, .instanceMethod yX12_whole, .selects RX12 yX12_whole yX12_whole, .initialized RX12] [13, 14, 15, 6] rfl (by decide +kernel)) (goodIn_m (fun _ h => (List.mem_cons_of_mem _ (List.mem_append_right _ (List.mem_append_right _ (List.mem_append_right _ (List.mem_append_right _ (List.mem_append_right _ (List.mem_append_left _ h)))))))) qfX12_whole)
theorem gfX12_nothing_4 : GoodIn vfX12_nothing (wsV RX12 363 RX12 yX12_fraction vfX12_fraction) := goodIn_app (goodIn_r [.methodLink RX12 363 yX12_fraction, .instanceMethod yX12_fraction, .selects RX12 yX12_fraction yX12_fraction, .initialized RX12] [16, 17, 18, 6] rfl (by decide +kernel)) (goodIn_m (fun _ h => (List.mem_cons_of_mem _ (List.mem_append_right _ (List.mem_append_right _ (List.mem_append_right _ (List.mem_append_right _ (List.mem_append_right _ (List.mem_append_right _ (List.mem_append_left _ h))))))))) qfX12_fraction)
theorem gfX12_nothing_5 : GoodIn vfX12_nothing (wsV RX12 42 RX12 yX12_refused vfX12_refused) := goodIn_app (goodIn_r [.methodLink RX12 42 yX12_refused, .instanceMethod yX12_refused, .selects RX12 yX12_refused yX12_refused, .initialized RX12] [19, 20, 21, 6] rfl (by decide +kernel)) (goodIn_m (fun _ h => (List.mem_cons_of_mem _ (List.mem_append_right _ (List.mem_append_right _ (List.mem_append_right _ (List.mem_append_right _ (List.mem_append_right _ (List.mem_append_right _ (List.mem_append_right _ h))))))))) qfX12_refused)
set_option maxHeartbeats 2000000 in
set_option maxRecDepth 100000 in
theorem kfX12_nothing (l : Launch) (dC : Nat → ClassId) (dI : Nat → Nat → Nat) (a0 : Nat) (k1 : Int32) (k2 : Int32) (k3 : Int32) (k4 : Int32) (a5 : Nat) (a6 : Nat) (uq : Nat → Nat) (kq : Nat → ClassId) (m_t : TX12_t) (m_v : TX12_v) (g11 : Value) (g12 : Value) (g13 : Value) (g14 : Value) (g15 : Value) (g16 : Value) (g17 : Value) (g18 : Value) (g19 : Value) (g20 : Value) (g21 : Value) (g22 : Value) (g23 : Value) (g24 : Value) (g25 : Value) (g26 : Value) (g27 : Value) (g28 : Value) (g29 : Value) (g30 : Value) (g31 : Value) (g32 : Value) (g33 : Value) (g34 : Value) (g35 : Value) (q_q : TX11_q) (cB37 : ClassId) (sz : Nat) (out : (Int64 × TX12_t)) (h : f_X12_nothing k1 k2 k3 k4 m_t m_v q_q = some out) : KCl l yX12_nothing vfX12_nothing ({ frames := 5, cells := 0, slots := 0, locals := 117 }) (dC, dI) [.ref a0, .int k1, .int k2, .int k3, .int k4] sz ((a0, .inr (9, [.int m_t.1, .int m_t.2.1, .int m_t.2.2, .ref a5, g11, g12, g13, g14, g15, g16, g17, g18, g19, g20, g21, .ref a6, g22, g23, g24, g25, g26, g27, g28, g29, g30, g31, g32, g33, g34, g35])) :: bX11 a5 uq kq q_q ([(a6, .inl (cB37, 26, .inl m_v))])) (tX11 kq ((cB37, .int) :: [])) (fun (r : Int64) _ => r = out.1) ((a0, .inr (9, [.int out.2.1, .int out.2.2.1, .int out.2.2.2, .ref a5, g11, g12, g13, g14, g15, g16, g17, g18, g19, g20, g21, .ref a6, g22, g23, g24, g25, g26, g27, g28, g29, g30, g31, g32, g33, g34, g35])) :: bX11 a5 uq kq q_q ([(a6, .inl (cB37, 26, .inl m_v))])) 0 0 := by
  refine Met.ofW (cc := cX12_nothing) (maxL := 6) (ret := (some .long)) (by decide) rfl ?_
  intro p e s m args below meth c s₁ B0 hml hv
  obtain ⟨rfl, hsz, hP, hK, hD0, hN⟩ := hv
  have hx := B0.exec
  have hb := B0.bytes
  have hr := B0.returns
  have hts := atoms_spec (ws := vfX12_nothing) B0.pre
  have hown : s.vm.findClass RX12 = some m.cls := findClass_of_methodNamed B0.named
  have hlocks := B0.notSynchronized
  subst hsz
  have hD := hD0.self (sz := s.heap.size)
  generalize hAe : va_A ((a0, .inr (9, [.int m_t.1, .int m_t.2.1, .int m_t.2.2, .ref a5, g11, g12, g13, g14, g15, g16, g17, g18, g19, g20, g21, .ref a6, g22, g23, g24, g25, g26, g27, g28, g29, g30, g31, g32, g33, g34, g35])) :: bX11 a5 uq kq q_q ([(a6, .inl (cB37, 26, .inl m_v))])) s.heap.size = A at hD ⊢
  have hA : ∀ q : Nat, s.heap.size ≤ q → A q := fun q h => by rw [← hAe]; exact Or.inr h
  have hS : va_S A s.heap s.heap [] := va_S.rf
  have hP : va_P (dC, dI) vwCl ((a0, .inr (9, [.int m_t.1, .int m_t.2.1, .int m_t.2.2, .ref a5, g11, g12, g13, g14, g15, g16, g17, g18, g19, g20, g21, .ref a6, g22, g23, g24, g25, g26, g27, g28, g29, g30, g31, g32, g33, g34, g35])) :: bX11 a5 uq kq q_q ([(a6, .inl (cB37, 26, .inl m_v))])) s.heap := hP
  have hl := lv_entry ([.ref a0, .int k1, .int k2, .int k3, .int k4]) (n := 6) (Nat.le_of_ble_eq_true rfl)
  rw [lg_entry_eq]
  generalize (lg_sl ([.ref a0, .int k1, .int k2, .int k3, .int k4]) ++ List.replicate (6 - (lg_sl ([.ref a0, .int k1, .int k2, .int k3, .int k4])).length) Slot.unset).toArray = ls at hl ⊢
  have hl : lv_has ls 6 [(0, .ref a0), (1, .int k1), (2, .int k2), (3, .int k3), (4, .int k4)] := hl
  refine W_q (fun QQ hQQ => ?_)
  rw [f_X12_nothing] at h
  refine lv_aload_n hx hb (zat zrX12_nothing_0_ok 0 rfl) rfl (lv_at hl 0 rfl) ?_
  refine lv_iconst (v := 0) hx hb (zat zrX12_nothing_0_ok 1 rfl) (by decide) ?_
  refine va_put (D := (dC, dI)) (ci := 9) (v := .int 0) (ty := .int) (C := RX12) (T := TX12) (N := 30) hx hb hts ifX12_nothing_X12 tyX12 tyX12_ok nmX12 hown hK hP hD hS 0 rfl rfl 0 (by decide) (hts (.fieldLink RX12 36 "HookPierModel" "thrown" "I") (List.mem_of_getElem? (i := 1) rfl)) (fun _ h9 => h9) rfl (by decide +kernel) rfl rfl (Nat.le_of_ble_eq_true rfl) (zat zrX12_nothing_0_ok 2 rfl) (fun H locs hP hD hS => ?_)
  obtain ⟨hP, hD⟩ := pd_mk ((a0, .inr (9, [.int 0, .int m_t.2.1, .int m_t.2.2, .ref a5, g11, g12, g13, g14, g15, g16, g17, g18, g19, g20, g21, .ref a6, g22, g23, g24, g25, g26, g27, g28, g29, g30, g31, g32, g33, g34, g35])) :: bX11 a5 uq kq q_q ([(a6, .inl (cB37, 26, .inl m_v))])) hP hD
  refine lv_aload_n hx hb (zat zrX12_nothing_0_ok 3 rfl) rfl (lv_at hl 0 rfl) ?_
  refine lv_aload_n hx hb (zat zrX12_nothing_0_ok 4 rfl) rfl (lv_at hl 0 rfl) ?_
  refine va_get (D := (dC, dI)) (ci := 9) (v := .ref a5) (C := RX12) (T := TX12) (N := 30) hx hb hts ifX12_nothing_X12 hown hK hP 0 rfl rfl 3 (by decide) (hts (.fieldLink RX12 299 "HookPierModel" "pier" "LHookPierModel$Pier;") (List.mem_of_getElem? (i := 2) rfl)) (fun _ h9 => h9) rfl (zat zrX12_nothing_0_ok 5 rfl) ?_
  refine lv_ifnull hx hb (zat zrX12_nothing_0_ok 6 rfl) ?_
  refine lv_iconst (v := 1) hx hb (zat zrX12_nothing_0_ok 7 rfl) (by decide) ?_
  refine lv_goto (tgt := 18) hx hb (zat zrX12_nothing_0_ok 8 rfl) (by decide) ?_
  refine lv_iload_n hx hb (zat zrX12_nothing_0_ok 10 rfl) rfl (lv_at hl 1 rfl) ?_
  refine lv_iload_n hx hb (zat zrX12_nothing_0_ok 11 rfl) rfl (lv_at hl 2 rfl) ?_
  refine lv_iload_n hx hb (zat zrX12_nothing_0_ok 12 rfl) rfl (lv_at hl 3 rfl) ?_
  obtain ⟨o21, eo21⟩ : ∃ o, o = f_X12_refusesQuestion (1 : Int32) k1 k2 k3 q_q := ⟨_, rfl⟩
  have h := nm_of h o21 eo21
  refine ck_i (wc := ((a0, .inr (9, [.int 0, .int m_t.2.1, .int m_t.2.2, .ref a5, g11, g12, g13, g14, g15, g16, g17, g18, g19, g20, g21, .ref a6, g22, g23, g24, g25, g26, g27, g28, g29, g30, g31, g32, g33, g34, g35])) :: bX11 a5 uq kq q_q [])) (wr := ([(a6, .inl (cB37, 26, .inl m_v))])) hP hD hK hS hA [0, 1, 2, 3, 4, 5, 6, 7, 8, 9, 10, 11, 12, 13, 14, 15] [16] rfl rfl (by decide) (by decide) (by decide) (fun hPc hDc => (va_runV (As := [.int 1, .int k1, .int k2, .int k3]) (rest := []) ⟨hx, hb, hml, hown, hts⟩ (kfX12_refusesQuestion l dC dI a0 (1 : Int32) k1 k2 k3 a5 uq kq (.int 0) (.int m_t.2.1) (.int m_t.2.2) (g11) (g12) (g13) (g14) (g15) (g16) (g17) (g18) (g19) (g20) (g21) (.ref a6) (g22) (g23) (g24) (g25) (g26) (g27) (g28) (g29) (g30) (g31) (g32) (g33) (g34) (g35) q_q H.size o21 eo21.symm) (cwV 4 hts gfX12_nothing_0 rfl rfl rfl (by decide +kernel) ⟨(Nat.le_of_ble_eq_true rfl), (Nat.le_of_ble_eq_true rfl)⟩) (PV hPc (hK.sub (tys' := (tX11 kq ([]))) [0, 1, 2, 3, 4, 5, 6, 7, 8, 9, 10, 11, 12, 13] rfl) hDc hN 0 rfl rfl) rfl rfl hl.1 rfl (lv_room (Nat.le_of_ble_eq_true rfl)) (zat zrX12_nothing_0_ok 13 rfl) ⟨(Nat.le_of_ble_eq_true rfl), (Nat.le_of_ble_eq_true rfl)⟩)) (fun r21 _ H locs hw hP hD _ hS => ?_)
  obtain rfl := hw.symm
  obtain ⟨hP, hD⟩ := pd_mk ((a6, .inl (cB37, 26, .inl m_v)) :: (a0, .inr (9, [.int 0, .int m_t.2.1, .int m_t.2.2, .ref a5, g11, g12, g13, g14, g15, g16, g17, g18, g19, g20, g21, .ref a6, g22, g23, g24, g25, g26, g27, g28, g29, g30, g31, g32, g33, g34, g35])) :: bX11 a5 uq kq q_q []) hP hD
  refine lv_istore (lv' := [(5, .int o21), (0, .ref a0), (1, .int k1), (2, .int k2), (3, .int k3), (4, .int k4)]) hx hb (zat zrX12_nothing_0_ok 14 rfl) hl (by decide) rfl (fun ls hl => ?_)
  refine lv_iload hx hb (zat zrX12_nothing_0_ok 15 rfl) (lv_at hl 0 rfl) ?_
  refine lv_if_le (tgt := 41) hx hb (zat zrX12_nothing_0_ok 16 rfl) (by decide) (fun c28 => ?_) (fun c28 => ?_)
  · have h := (if_pos c28).symm.trans h
    refine lv_aload_n hx hb (zat zrX12_nothing_0_ok 22 rfl) rfl (lv_at hl 1 rfl) ?_
    refine lv_aload_n hx hb (zat zrX12_nothing_0_ok 23 rfl) rfl (lv_at hl 1 rfl) ?_
    refine lv_aload_n hx hb (zat zrX12_nothing_0_ok 24 rfl) rfl (lv_at hl 1 rfl) ?_
    refine lv_iload_n hx hb (zat zrX12_nothing_0_ok 25 rfl) rfl (lv_at hl 2 rfl) ?_
    refine lv_iload_n hx hb (zat zrX12_nothing_0_ok 26 rfl) rfl (lv_at hl 3 rfl) ?_
    refine lv_iload_n hx hb (zat zrX12_nothing_0_ok 27 rfl) rfl (lv_at hl 4 rfl) ?_
    obtain ⟨o47, eo47⟩ : ∃ o, o = f_X12_question k1 k2 k3 q_q := ⟨_, rfl⟩
    have h := nm_of h o47 eo47
    refine ck_i (wc := ((a0, .inr (9, [.int 0, .int m_t.2.1, .int m_t.2.2, .ref a5, g11, g12, g13, g14, g15, g16, g17, g18, g19, g20, g21, .ref a6, g22, g23, g24, g25, g26, g27, g28, g29, g30, g31, g32, g33, g34, g35])) :: bX11 a5 uq kq q_q [])) (wr := ([(a6, .inl (cB37, 26, .inl m_v))])) hP hD hK hS hA [1, 2, 3, 4, 5, 6, 7, 8, 9, 10, 11, 12, 13, 14, 15, 16] [0] rfl rfl (by decide) (by decide) (by decide) (fun hPc hDc => (va_runV (As := [.int k1, .int k2, .int k3]) (rest := [.ref a0, .ref a0]) ⟨hx, hb, hml, hown, hts⟩ (kfX12_question l dC dI a0 k1 k2 k3 a5 uq kq (.int 0) (.int m_t.2.1) (.int m_t.2.2) (g11) (g12) (g13) (g14) (g15) (g16) (g17) (g18) (g19) (g20) (g21) (.ref a6) (g22) (g23) (g24) (g25) (g26) (g27) (g28) (g29) (g30) (g31) (g32) (g33) (g34) (g35) q_q H.size o47 eo47.symm) (cwV 3 hts gfX12_nothing_1 rfl rfl rfl (by decide +kernel) ⟨(Nat.le_of_ble_eq_true rfl), (Nat.le_of_ble_eq_true rfl)⟩) (PV hPc (hK.sub (tys' := (tX11 kq ([]))) [0, 1, 2, 3, 4, 5, 6, 7, 8, 9, 10, 11, 12, 13] rfl) hDc hN 0 rfl rfl) rfl rfl hl.1 rfl (lv_room (Nat.le_of_ble_eq_true rfl)) (zat zrX12_nothing_0_ok 28 rfl) ⟨(Nat.le_of_ble_eq_true rfl), (Nat.le_of_ble_eq_true rfl)⟩)) (fun r47 _ H locs hw hP hD _ hS => ?_)
    obtain rfl := hw.symm
    obtain ⟨hP, hD⟩ := pd_mk ((a6, .inl (cB37, 26, .inl m_v)) :: (a0, .inr (9, [.int 0, .int m_t.2.1, .int m_t.2.2, .ref a5, g11, g12, g13, g14, g15, g16, g17, g18, g19, g20, g21, .ref a6, g22, g23, g24, g25, g26, g27, g28, g29, g30, g31, g32, g33, g34, g35])) :: bX11 a5 uq kq q_q []) hP hD
    obtain ⟨o50, eo50, h⟩ := bd_of h
    refine ck_l (wc := ((a0, .inr (9, [.int 0, .int m_t.2.1, .int m_t.2.2, .ref a5, g11, g12, g13, g14, g15, g16, g17, g18, g19, g20, g21, .ref a6, g22, g23, g24, g25, g26, g27, g28, g29, g30, g31, g32, g33, g34, g35])) :: bX11 a5 uq kq q_q ([(a6, .inl (cB37, 26, .inl m_v))]))) (wr := []) hP hD hK hS hA [1, 2, 3, 4, 5, 6, 7, 8, 9, 10, 11, 12, 13, 14, 15, 16, 0] [] rfl rfl (by decide) (by decide) (by decide) (fun hPc hDc => (va_runV (As := [.int o47]) (rest := [.ref a0]) ⟨hx, hb, hml, hown, hts⟩ (kfX12_noOdds l dC dI a0 o47 a5 a6 uq kq m_v (.int 0) (.int m_t.2.1) (.int m_t.2.2) (g11) (g12) (g13) (g14) (g15) (g16) (g17) (g18) (g19) (g20) (g21) (g22) (g23) (g24) (g25) (g26) (g27) (g28) (g29) (g30) (g31) (g32) (g33) (g34) (g35) q_q cB37 H.size o50 eo50) (cwV 1 hts gfX12_nothing_2 rfl rfl rfl (by decide +kernel) ⟨(Nat.le_of_ble_eq_true rfl), (Nat.le_of_ble_eq_true rfl)⟩) (PV hPc (hK.sub (tys' := (tX11 kq ((cB37, .int) :: []))) [0, 1, 2, 3, 4, 5, 6, 7, 8, 9, 10, 11, 12, 13, 14] rfl) hDc hN 0 rfl rfl) rfl rfl hl.1 rfl (lv_room (Nat.le_of_ble_eq_true rfl)) (zat zrX12_nothing_0_ok 29 rfl) ⟨(Nat.le_of_ble_eq_true rfl), (Nat.le_of_ble_eq_true rfl)⟩)) (fun r50 _ H locs hw hP hD _ hS => ?_)
    obtain rfl := hw.symm
    obtain ⟨hP, hD⟩ := pd_mk ((a0, .inr (9, [.int 0, .int m_t.2.1, .int m_t.2.2, .ref a5, g11, g12, g13, g14, g15, g16, g17, g18, g19, g20, g21, .ref a6, g22, g23, g24, g25, g26, g27, g28, g29, g30, g31, g32, g33, g34, g35])) :: bX11 a5 uq kq q_q ([(a6, .inl (cB37, 26, .inl m_v))])) hP hD
    refine lv_aload_n hx hb (zat zrX12_nothing_0_ok 30 rfl) rfl (lv_at hl 1 rfl) ?_
    obtain ⟨o54, eo54, h⟩ := bd_of h
    refine ck_l (wc := ((a0, .inr (9, [.int 0, .int m_t.2.1, .int m_t.2.2, .ref a5, g11, g12, g13, g14, g15, g16, g17, g18, g19, g20, g21, .ref a6, g22, g23, g24, g25, g26, g27, g28, g29, g30, g31, g32, g33, g34, g35])) :: bX11 a5 uq kq q_q ([(a6, .inl (cB37, 26, .inl m_v))]))) (wr := []) hP hD hK hS hA [0, 1, 2, 3, 4, 5, 6, 7, 8, 9, 10, 11, 12, 13, 14, 15, 16] [] rfl rfl (by decide) (by decide) (by decide) (fun hPc hDc => (va_runV (As := []) (rest := [.long o50, .ref a0]) ⟨hx, hb, hml, hown, hts⟩ (kfX12_whole l dC dI a0 a5 a6 uq kq m_v (.int 0) (.int m_t.2.1) (.int m_t.2.2) (g11) (g12) (g13) (g14) (g15) (g16) (g17) (g18) (g19) (g20) (g21) (g22) (g23) (g24) (g25) (g26) (g27) (g28) (g29) (g30) (g31) (g32) (g33) (g34) (g35) q_q cB37 H.size o54 eo54) (cwV 0 hts gfX12_nothing_3 rfl rfl rfl (by decide +kernel) ⟨(Nat.le_of_ble_eq_true rfl), (Nat.le_of_ble_eq_true rfl)⟩) (PV hPc (hK.sub (tys' := (tX11 kq ((cB37, .int) :: []))) [0, 1, 2, 3, 4, 5, 6, 7, 8, 9, 10, 11, 12, 13, 14] rfl) hDc hN 0 rfl rfl) rfl rfl hl.1 rfl (lv_room (Nat.le_of_ble_eq_true rfl)) (zat zrX12_nothing_0_ok 31 rfl) ⟨(Nat.le_of_ble_eq_true rfl), (Nat.le_of_ble_eq_true rfl)⟩)) (fun r54 _ H locs hw hP hD _ hS => ?_)
    obtain rfl := hw.symm
    obtain ⟨hP, hD⟩ := pd_mk ((a0, .inr (9, [.int 0, .int m_t.2.1, .int m_t.2.2, .ref a5, g11, g12, g13, g14, g15, g16, g17, g18, g19, g20, g21, .ref a6, g22, g23, g24, g25, g26, g27, g28, g29, g30, g31, g32, g33, g34, g35])) :: bX11 a5 uq kq q_q ([(a6, .inl (cB37, 26, .inl m_v))])) hP hD
    refine lv_iload hx hb (zat zrX12_nothing_0_ok 32 rfl) (lv_at hl 5 rfl) ?_
    obtain ⟨o59, eo59, h⟩ := bd_of h
    refine ck_l (wc := ([(a0, .inr (9, [.int 0, .int m_t.2.1, .int m_t.2.2, .ref a5, g11, g12, g13, g14, g15, g16, g17, g18, g19, g20, g21, .ref a6, g22, g23, g24, g25, g26, g27, g28, g29, g30, g31, g32, g33, g34, g35]))])) (wr := (bX11 a5 uq kq q_q ([(a6, .inl (cB37, 26, .inl m_v))]))) hP hD hK hS hA [0] [1, 2, 3, 4, 5, 6, 7, 8, 9, 10, 11, 12, 13, 14, 15, 16] rfl rfl (by decide) (by decide) (by decide) (fun hPc hDc => (va_runV (As := [.long o50, .long o54, .int k4]) (rest := []) ⟨hx, hb, hml, hown, hts⟩ (kfX12_fraction l dC dI a0 o50 o54 k4 ((0 : Int32), m_t.2) (.ref a5) (g11) (g12) (g13) (g14) (g15) (g16) (g17) (g18) (g19) (g20) (g21) (.ref a6) (g22) (g23) (g24) (g25) (g26) (g27) (g28) (g29) (g30) (g31) (g32) (g33) (g34) (g35) H.size o59 eo59) (cwV 3 hts gfX12_nothing_4 rfl rfl rfl (by decide +kernel) ⟨(Nat.le_of_ble_eq_true rfl), (Nat.le_of_ble_eq_true rfl)⟩) (PV hPc (hK.sub (tys' := ([])) [] rfl) hDc hN 0 rfl rfl) rfl rfl hl.1 rfl (lv_room (Nat.le_of_ble_eq_true rfl)) (zat zrX12_nothing_0_ok 33 rfl) ⟨(Nat.le_of_ble_eq_true rfl), (Nat.le_of_ble_eq_true rfl)⟩)) (fun r59 _ H locs hw hP hD _ hS => ?_)
    obtain rfl := hw
    obtain ⟨hP, hD⟩ := pd_mk (bX11 a5 uq kq q_q ([(a6, .inl (cB37, 26, .inl m_v)), (a0, .inr (9, [.int o59.2.1, .int o59.2.2.1, .int o59.2.2.2, .ref a5, g11, g12, g13, g14, g15, g16, g17, g18, g19, g20, g21, .ref a6, g22, g23, g24, g25, g26, g27, g28, g29, g30, g31, g32, g33, g34, g35]))])) hP hD
    obtain rfl := Option.some.inj h
    obtain ⟨hP9, hD9⟩ := pd_sub ((a0, .inr (9, [.int o59.2.1, .int o59.2.2.1, .int o59.2.2.2, .ref a5, g11, g12, g13, g14, g15, g16, g17, g18, g19, g20, g21, .ref a6, g22, g23, g24, g25, g26, g27, g28, g29, g30, g31, g32, g33, g34, g35])) :: bX11 a5 uq kq q_q ([(a6, .inl (cB37, 26, .inl m_v))])) [16, 0, 1, 2, 3, 4, 5, 6, 7, 8, 9, 10, 11, 12, 13, 14, 15] hP hD (by decide) rfl
    have hK9 := hK.sub (tys' := []) [] rfl
    rw [hQQ]
    exact W.lret (v := o59.1) hx hb hr (fun t ht hW => ⟨⟨o59.1, (), rfl, rfl, by rw [ht]; exact hP9, va_K.moved hW.alike hK9, hD9⟩, hS.F ht⟩) hS.2.2 (zat zrX12_nothing_0_ok 34 rfl)
  · have h := (if_neg c28).symm.trans h
    refine lv_aload_n hx hb (zat zrX12_nothing_0_ok 17 rfl) rfl (lv_at hl 1 rfl) ?_
    refine lv_iload hx hb (zat zrX12_nothing_0_ok 18 rfl) (lv_at hl 0 rfl) ?_
    obtain ⟨o34, eo34⟩ : ∃ o, o = f_X12_refused o21 ((0 : Int32), m_t.2) := ⟨_, rfl⟩
    have h := nm_of h o34 eo34
    refine ck_i (wc := ([(a0, .inr (9, [.int 0, .int m_t.2.1, .int m_t.2.2, .ref a5, g11, g12, g13, g14, g15, g16, g17, g18, g19, g20, g21, .ref a6, g22, g23, g24, g25, g26, g27, g28, g29, g30, g31, g32, g33, g34, g35]))])) (wr := ((a6, .inl (cB37, 26, .inl m_v)) :: bX11 a5 uq kq q_q [])) hP hD hK hS hA [1] [0, 2, 3, 4, 5, 6, 7, 8, 9, 10, 11, 12, 13, 14, 15, 16] rfl rfl (by decide) (by decide) (by decide) (fun hPc hDc => (va_runV (As := [.int o21]) (rest := []) ⟨hx, hb, hml, hown, hts⟩ (kfX12_refused l dC dI a0 o21 ((0 : Int32), m_t.2) (.ref a5) (g11) (g12) (g13) (g14) (g15) (g16) (g17) (g18) (g19) (g20) (g21) (.ref a6) (g22) (g23) (g24) (g25) (g26) (g27) (g28) (g29) (g30) (g31) (g32) (g33) (g34) (g35) H.size o34 eo34.symm) (cwV 1 hts gfX12_nothing_5 rfl rfl rfl (by decide +kernel) ⟨(Nat.le_of_ble_eq_true rfl), (Nat.le_of_ble_eq_true rfl)⟩) (PV hPc (hK.sub (tys' := ([])) [] rfl) hDc hN 0 rfl rfl) rfl rfl hl.1 rfl (lv_room (Nat.le_of_ble_eq_true rfl)) (zat zrX12_nothing_0_ok 19 rfl) ⟨(Nat.le_of_ble_eq_true rfl), (Nat.le_of_ble_eq_true rfl)⟩)) (fun r34 _ H locs hw hP hD _ hS => ?_)
    obtain rfl := hw
    obtain ⟨hP, hD⟩ := pd_mk ((a6, .inl (cB37, 26, .inl m_v)) :: bX11 a5 uq kq q_q ([(a0, .inr (9, [.int o34.1, .int o34.2.1, .int o34.2.2, .ref a5, g11, g12, g13, g14, g15, g16, g17, g18, g19, g20, g21, .ref a6, g22, g23, g24, g25, g26, g27, g28, g29, g30, g31, g32, g33, g34, g35]))])) hP hD
    refine lv_i2l (v := (-1)) hx hb (zat zrX12_nothing_0_ok 20 rfl) (by decide) ?_
    refine lv_goto (tgt := 62) hx hb (zat zrX12_nothing_0_ok 21 rfl) (by decide) ?_
    obtain rfl := Option.some.inj h
    obtain ⟨hP9, hD9⟩ := pd_sub ((a0, .inr (9, [.int o34.1, .int o34.2.1, .int o34.2.2, .ref a5, g11, g12, g13, g14, g15, g16, g17, g18, g19, g20, g21, .ref a6, g22, g23, g24, g25, g26, g27, g28, g29, g30, g31, g32, g33, g34, g35])) :: bX11 a5 uq kq q_q ([(a6, .inl (cB37, 26, .inl m_v))])) [16, 1, 2, 3, 4, 5, 6, 7, 8, 9, 10, 11, 12, 13, 14, 15, 0] hP hD (by decide) rfl
    have hK9 := hK.sub (tys' := []) [] rfl
    rw [hQQ]
    exact W.lret (v := (-1 : Int64)) hx hb hr (fun t ht hW => ⟨⟨(-1 : Int64), (), rfl, rfl, by rw [ht]; exact hP9, va_K.moved hW.alike hK9, hD9⟩, hS.F ht⟩) hS.2.2 (zat zrX12_nothing_0_ok 34 rfl)
noncomputable def zrX12_meanOf_0 : List ZR := zc 0 true (.lconst 0) 1 (zc 1 true (.lstore_n 2) 1 (zc 2 true (.iconst 0) 1 (zc 3 true (.istore 4) 2 (zc 5 true (.iload 4) 2 (zc 7 true (.aload_n 0) 1 (zc 8 true (.getfield 299) 3 (zc 11 true (.getfield 231) 3 (zc 14 true (.if_icmp .ge 45) 3 (zc 17 true (.aload_n 0) 1 (zc 18 true (.getfield 299) 3 (zc 21 true (.getfield 256) 3 (zc 24 true (.iload 4) 2 (zc 26 true (.iaload) 1 (zc 27 true (.iconst 2) 1 (zc 28 true (.if_icmp .eq 25) 3 (zc 31 true (.lload_n 2) 1 (zc 32 true (.aload_n 0) 1 (zc 33 true (.iload 4) 2 (zc 35 true (.iload_n 1) 1 (zc 36 true (.invokevirtual 349) 3 (zc 39 true (.aload_n 0) 1 (zc 40 true (.getfield 299) 3 (zc 43 true (.getfield 267) 3 (zc 46 true (.iload 4) 2 (zc 48 true (.iaload) 1 (zc 49 true (.i2l) 1 (zc 50 true (.lmul) 1 (zc 51 true (.ladd) 1 (zc 52 true (.lstore_n 2) 1 (zc 53 true (.iinc 4 1) 3 (zc 56 true (.goto (-51)) 3 (zc 59 true (.lload_n 2) 1 (zc 60 true (.lreturn) 1 ([]))))))))))))))))))))))))))))))))))
theorem zrX12_meanOf_0_ok : zck 0 ((zby cX12_meanOf).drop 0) zrX12_meanOf_0 = true := by decide +kernel
def vfX12_meanOf : List Cond := List.cons (.code yX12_meanOf cX12_meanOf 5 (some .long)) (apW [.fieldLink RX12 299 "HookPierModel" "pier" "LHookPierModel$Pier;", .methodLink RX12 349 yX12_oddsOf, .instanceMethod yX12_oddsOf, .selects RX12 yX12_oddsOf yX12_oddsOf, .initialized RX12] (apW wsX120 (apW wsX110 (vfX12_oddsOf))))
theorem ifX12_meanOf_X12 : ∀ w ∈ wsX120, w ∈ vfX12_meanOf := fun _ h => (List.mem_cons_of_mem _ (List.mem_append_right _ (List.mem_append_left _ h)))
theorem ifX12_meanOf_X11 : ∀ w ∈ wsX110, w ∈ vfX12_meanOf := fun _ h => (List.mem_cons_of_mem _ (List.mem_append_right _ (List.mem_append_right _ (List.mem_append_left _ h))))
theorem qfX12_meanOf : Good vfX12_meanOf := gd_cons (by decide +kernel) (gd_app (gd_dec (by decide +kernel) : Good [.fieldLink RX12 299 "HookPierModel" "pier" "LHookPierModel$Pier;", .methodLink RX12 349 yX12_oddsOf, .instanceMethod yX12_oddsOf, .selects RX12 yX12_oddsOf yX12_oddsOf, .initialized RX12]) (gd_app qsX12 (gd_app qsX11 qfX12_oddsOf)))
theorem gfX12_meanOf_0 : GoodIn vfX12_meanOf (wsV RX12 349 RX12 yX12_oddsOf vfX12_oddsOf) := goodIn_app (goodIn_r [.methodLink RX12 349 yX12_oddsOf, .instanceMethod yX12_oddsOf, .selects RX12 yX12_oddsOf yX12_oddsOf, .initialized RX12] [2, 3, 4, 5] rfl (by decide +kernel)) (goodIn_m (fun _ h => (List.mem_cons_of_mem _ (List.mem_append_right _ (List.mem_append_right _ (List.mem_append_right _ h))))) qfX12_oddsOf)
set_option maxHeartbeats 2000000 in
set_option maxRecDepth 100000 in
theorem kfX12_meanOf (l : Launch) (dC : Nat → ClassId) (dI : Nat → Nat → Nat) (a0 : Nat) (k1 : Int32) (a2 : Nat) (a3 : Nat) (uq : Nat → Nat) (kq : Nat → ClassId) (m_v : TX12_v) (g7 : Value) (g8 : Value) (g9 : Value) (g10 : Value) (g11 : Value) (g12 : Value) (g13 : Value) (g14 : Value) (g15 : Value) (g16 : Value) (g17 : Value) (g18 : Value) (g19 : Value) (g20 : Value) (g21 : Value) (g22 : Value) (g23 : Value) (g24 : Value) (g25 : Value) (g26 : Value) (g27 : Value) (g28 : Value) (g29 : Value) (g30 : Value) (g31 : Value) (g32 : Value) (g33 : Value) (g34 : Value) (q_q : TX11_q) (cB36 : ClassId) (sz : Nat) (out : Int64) (h : f_X12_meanOf k1 m_v q_q = some out) : KDl l yX12_meanOf vfX12_meanOf ({ frames := 5, cells := 0, slots := 0, locals := 118 }) (dC, dI) [.ref a0, .int k1] sz ((a0, .inr (9, [g7, g8, g9, .ref a2, g10, g11, g12, g13, g14, g15, g16, g17, g18, g19, g20, .ref a3, g21, g22, g23, g24, g25, g26, g27, g28, g29, g30, g31, g32, g33, g34])) :: bX11 a2 uq kq q_q ([(a3, .inl (cB36, 26, .inl m_v))])) (tX11 kq ((cB36, .int) :: [])) (fun (r : Int64) _ => r = out) 0 0 := by
  refine Met.ofW (cc := cX12_meanOf) (maxL := 5) (ret := (some .long)) (by decide) rfl ?_
  intro p e s m args below meth c s₁ B0 hml hv
  obtain ⟨rfl, hsz, hP, hK, hD0, hN⟩ := hv
  have hx := B0.exec
  have hb := B0.bytes
  have hr := B0.returns
  have hts := atoms_spec (ws := vfX12_meanOf) B0.pre
  have hown : s.vm.findClass RX12 = some m.cls := findClass_of_methodNamed B0.named
  have hlocks := B0.notSynchronized
  subst hsz
  have hD := hD0.self (sz := s.heap.size)
  generalize hAe : va_A ((a0, .inr (9, [g7, g8, g9, .ref a2, g10, g11, g12, g13, g14, g15, g16, g17, g18, g19, g20, .ref a3, g21, g22, g23, g24, g25, g26, g27, g28, g29, g30, g31, g32, g33, g34])) :: bX11 a2 uq kq q_q ([(a3, .inl (cB36, 26, .inl m_v))])) s.heap.size = A at hD ⊢
  have hA : ∀ q : Nat, s.heap.size ≤ q → A q := fun q h => by rw [← hAe]; exact Or.inr h
  have hS : va_S A s.heap s.heap [] := va_S.rf
  have hP : va_P (dC, dI) vwCl ((a0, .inr (9, [g7, g8, g9, .ref a2, g10, g11, g12, g13, g14, g15, g16, g17, g18, g19, g20, .ref a3, g21, g22, g23, g24, g25, g26, g27, g28, g29, g30, g31, g32, g33, g34])) :: bX11 a2 uq kq q_q ([(a3, .inl (cB36, 26, .inl m_v))])) s.heap := hP
  have hl := lv_entry ([.ref a0, .int k1]) (n := 5) (Nat.le_of_ble_eq_true rfl)
  rw [lg_entry_eq]
  generalize (lg_sl ([.ref a0, .int k1]) ++ List.replicate (5 - (lg_sl ([.ref a0, .int k1])).length) Slot.unset).toArray = ls at hl ⊢
  have hl : lv_has ls 5 [(0, .ref a0), (1, .int k1)] := hl
  refine W_q (fun QQ hQQ => ?_)
  rw [f_X12_meanOf] at h
  refine lv_lconst (v := 0) hx hb (zat zrX12_meanOf_0_ok 0 rfl) (by decide) ?_
  refine lv_lstore_n (lv' := [(2, .long 0), (0, .ref a0), (1, .int k1)]) hx hb (zat zrX12_meanOf_0_ok 1 rfl) rfl hl (by decide) rfl (fun ls hl => ?_)
  refine lv_iconst (v := 0) hx hb (zat zrX12_meanOf_0_ok 2 rfl) (by decide) ?_
  refine lv_istore (lv' := [(4, .int 0), (2, .long 0), (0, .ref a0), (1, .int k1)]) hx hb (zat zrX12_meanOf_0_ok 3 rfl) hl (by decide) rfl (fun ls hl => ?_)
  have L5 : ∀ (n5 : Nat) (v5_l4 : Int32) (v5_l2 : Int64) (H : Heap) (locs : List Loc) (ls : Array Slot), f_X12_meanOf_L5 k1 m_v q_q n5 v5_l4 v5_l2 = some out → va_P (dC, dI) vwCl ((a0, .inr (9, [g7, g8, g9, .ref a2, g10, g11, g12, g13, g14, g15, g16, g17, g18, g19, g20, .ref a3, g21, g22, g23, g24, g25, g26, g27, g28, g29, g30, g31, g32, g33, g34])) :: bX11 a2 uq kq q_q ([(a3, .inl (cB36, 26, .inl m_v))])) H → va_D A ((a0, .inr (9, [g7, g8, g9, .ref a2, g10, g11, g12, g13, g14, g15, g16, g17, g18, g19, g20, .ref a3, g21, g22, g23, g24, g25, g26, g27, g28, g29, g30, g31, g32, g33, g34])) :: bX11 a2 uq kq q_q ([(a3, .inl (cB36, 26, .inl m_v))])) → va_S A s.heap H locs → lv_has ls 5 [(4, .int v5_l4), (2, .long v5_l2), (0, .ref a0), (1, .int k1)] → W p l e (headSpec vfX12_meanOf { frames := 5, cells := 0, slots := 0, locals := 118 }).room s m ([.ref a0, .int k1]).toArray below meth c H locs 0 0 QQ (F0 m 5 ls []) := by
    intro n5
    induction n5 with
    | zero =>
      intro v5_l4 v5_l2 H locs ls h  _ _ _ _
      rw [f_X12_meanOf_L5] at h
      cases h
    | succ n5 ih5 =>
      intro v5_l4 v5_l2 H locs ls h  hP hD hS hl
      rw [f_X12_meanOf_L5] at h
      refine lv_iload hx hb (zat zrX12_meanOf_0_ok 4 rfl) (lv_at hl 0 rfl) ?_
      refine lv_aload_n hx hb (zat zrX12_meanOf_0_ok 5 rfl) rfl (lv_at hl 2 rfl) ?_
      refine va_get (D := (dC, dI)) (ci := 9) (v := .ref a2) (C := RX12) (T := TX12) (N := 30) hx hb hts ifX12_meanOf_X12 hown hK hP 0 rfl rfl 3 (by decide) (hts (.fieldLink RX12 299 "HookPierModel" "pier" "LHookPierModel$Pier;") (List.mem_of_getElem? (i := 1) rfl)) (fun _ h9 => h9) rfl (zat zrX12_meanOf_0_ok 6 rfl) ?_
      refine va_getN (D := (dC, dI)) (ci := 8) (v := .int q_q.2.2.2.2.2.2.1) (C := RX11) (T := TX11) (N := 24) hx hb hts ifX12_meanOf_X11 hown hK hP 1 rfl rfl 6 (by decide) (va_Nw.use rfl (hN.1 (.fieldLinkNest RX12 231 "HookPierModel$Pier" "answers" "I" "HookPierModel") (List.mem_of_getElem? (i := 28) rfl))) (fun _ h9 => h9) rfl (zat zrX12_meanOf_0_ok 7 rfl) ?_
      refine lv_icmp_ge (tgt := 59) hx hb (zat zrX12_meanOf_0_ok 8 rfl) (by decide) (fun c14 => ?_) (fun c14 => ?_)
      · have h := (if_pos c14).symm.trans h
        refine lv_lload_n hx hb (zat zrX12_meanOf_0_ok 32 rfl) rfl (lv_at hl 1 rfl) ?_
        obtain rfl := Option.some.inj h
        obtain ⟨hP9, hD9⟩ := pd_sub ((a0, .inr (9, [g7, g8, g9, .ref a2, g10, g11, g12, g13, g14, g15, g16, g17, g18, g19, g20, .ref a3, g21, g22, g23, g24, g25, g26, g27, g28, g29, g30, g31, g32, g33, g34])) :: bX11 a2 uq kq q_q ([(a3, .inl (cB36, 26, .inl m_v))])) [0, 1, 2, 3, 4, 5, 6, 7, 8, 9, 10, 11, 12, 13, 14, 15, 16] hP hD (by decide) rfl
        have hK9 := hK.sub (tys' := []) [] rfl
        rw [hQQ]
        exact W.lret (v := v5_l2) hx hb hr (fun t ht hW => ⟨⟨v5_l2, (), rfl, rfl, by rw [ht]; exact hP9, va_K.moved hW.alike hK9, hD9⟩, hS.F ht⟩) hS.2.2 (zat zrX12_meanOf_0_ok 33 rfl)
      · have h := (if_neg c14).symm.trans h
        refine lv_aload_n hx hb (zat zrX12_meanOf_0_ok 9 rfl) rfl (lv_at hl 2 rfl) ?_
        refine va_get (D := (dC, dI)) (ci := 9) (v := .ref a2) (C := RX12) (T := TX12) (N := 30) hx hb hts ifX12_meanOf_X12 hown hK hP 0 rfl rfl 3 (by decide) (hts (.fieldLink RX12 299 "HookPierModel" "pier" "LHookPierModel$Pier;") (List.mem_of_getElem? (i := 1) rfl)) (fun _ h9 => h9) rfl (zat zrX12_meanOf_0_ok 10 rfl) ?_
        refine va_getN (D := (dC, dI)) (ci := 8) (v := .ref (uq 1)) (C := RX11) (T := TX11) (N := 24) hx hb hts ifX12_meanOf_X11 hown hK hP 1 rfl rfl 11 (by decide) (va_Nw.use rfl (hN.1 (.fieldLinkNest RX12 256 "HookPierModel$Pier" "kind" "[I" "HookPierModel") (List.mem_of_getElem? (i := 33) rfl))) (fun _ h9 => h9) rfl (zat zrX12_meanOf_0_ok 11 rfl) ?_
        refine lv_iload hx hb (zat zrX12_meanOf_0_ok 12 rfl) (lv_at hl 0 rfl) ?_
        obtain ⟨hg26, h⟩ := gA_of h
        refine va_iald hx hb hK hP 3 1 rfl rfl hg26 (zat zrX12_meanOf_0_ok 13 rfl) ?_
        refine lv_iconst (v := 2) hx hb (zat zrX12_meanOf_0_ok 14 rfl) (by decide) ?_
        have J53 : ∀ (v53_l2 : Int64) (H : Heap) (locs : List Loc) (ls : Array Slot), f_X12_meanOf_J53 (f_X12_meanOf_L5 k1 m_v q_q n5) v5_l4 v53_l2 = some out → va_P (dC, dI) vwCl ((a0, .inr (9, [g7, g8, g9, .ref a2, g10, g11, g12, g13, g14, g15, g16, g17, g18, g19, g20, .ref a3, g21, g22, g23, g24, g25, g26, g27, g28, g29, g30, g31, g32, g33, g34])) :: bX11 a2 uq kq q_q ([(a3, .inl (cB36, 26, .inl m_v))])) H → va_D A ((a0, .inr (9, [g7, g8, g9, .ref a2, g10, g11, g12, g13, g14, g15, g16, g17, g18, g19, g20, .ref a3, g21, g22, g23, g24, g25, g26, g27, g28, g29, g30, g31, g32, g33, g34])) :: bX11 a2 uq kq q_q ([(a3, .inl (cB36, 26, .inl m_v))])) → va_S A s.heap H locs → lv_has ls 5 [(4, .int v5_l4), (2, .long v53_l2), (0, .ref a0), (1, .int k1)] → W p l e (headSpec vfX12_meanOf { frames := 5, cells := 0, slots := 0, locals := 118 }).room s m ([.ref a0, .int k1]).toArray below meth c H locs 0 0 QQ (F0 m 53 ls []) := by
          intro v53_l2 H locs ls h  hP hD hS hl
          rw [f_X12_meanOf_J53] at h
          refine lv_iinc (v := (v5_l4 + (1 : Int32))) (lv' := [(4, .int (v5_l4 + (1 : Int32))), (2, .long v53_l2), (0, .ref a0), (1, .int k1)]) hx hb (zat zrX12_meanOf_0_ok 30 rfl) hl (k := 0) rfl rfl (by decide) rfl (fun ls hl => ?_)
          refine lv_goto (tgt := 5) hx hb (zat zrX12_meanOf_0_ok 31 rfl) (by decide) ?_
          exact ih5 (v5_l4 + (1 : Int32)) v53_l2 H _ ls h  hP hD hS (lv_sub hl [0, 1, 2, 3] rfl)
        refine lv_icmp_eq (tgt := 53) hx hb (zat zrX12_meanOf_0_ok 15 rfl) (by decide) (fun c28 => ?_) (fun c28 => ?_)
        · have h := (if_pos c28).symm.trans h
          exact J53 v5_l2 H _ ls h  hP hD hS (lv_sub hl [0, 1, 2, 3] rfl)
        · have h := (if_neg c28).symm.trans h
          refine lv_lload_n hx hb (zat zrX12_meanOf_0_ok 16 rfl) rfl (lv_at hl 1 rfl) ?_
          refine lv_aload_n hx hb (zat zrX12_meanOf_0_ok 17 rfl) rfl (lv_at hl 2 rfl) ?_
          refine lv_iload hx hb (zat zrX12_meanOf_0_ok 18 rfl) (lv_at hl 0 rfl) ?_
          refine lv_iload_n hx hb (zat zrX12_meanOf_0_ok 19 rfl) rfl (lv_at hl 3 rfl) ?_
          obtain ⟨o36, eo36, h⟩ := bd_of h
          refine ck_l (wc := ((a0, .inr (9, [g7, g8, g9, .ref a2, g10, g11, g12, g13, g14, g15, g16, g17, g18, g19, g20, .ref a3, g21, g22, g23, g24, g25, g26, g27, g28, g29, g30, g31, g32, g33, g34])) :: bX11 a2 uq kq q_q ([(a3, .inl (cB36, 26, .inl m_v))]))) (wr := []) hP hD hK hS hA [0, 1, 2, 3, 4, 5, 6, 7, 8, 9, 10, 11, 12, 13, 14, 15, 16] [] rfl rfl (by decide) (by decide) (by decide) (fun hPc hDc => (va_runV (As := [.int v5_l4, .int k1]) (rest := [.long v5_l2]) ⟨hx, hb, hml, hown, hts⟩ (kfX12_oddsOf l dC dI a0 v5_l4 k1 a2 a3 uq kq m_v (g7) (g8) (g9) (g10) (g11) (g12) (g13) (g14) (g15) (g16) (g17) (g18) (g19) (g20) (g21) (g22) (g23) (g24) (g25) (g26) (g27) (g28) (g29) (g30) (g31) (g32) (g33) (g34) q_q cB36 H.size o36 eo36) (cwV 2 hts gfX12_meanOf_0 rfl rfl rfl (by decide +kernel) ⟨(Nat.le_of_ble_eq_true rfl), (Nat.le_of_ble_eq_true rfl)⟩) (PV hPc (hK.sub (tys' := (tX11 kq ((cB36, .int) :: []))) [0, 1, 2, 3, 4, 5, 6, 7, 8, 9, 10, 11, 12, 13, 14] rfl) hDc hN 0 rfl rfl) rfl rfl hl.1 rfl (lv_room (Nat.le_of_ble_eq_true rfl)) (zat zrX12_meanOf_0_ok 20 rfl) ⟨(Nat.le_of_ble_eq_true rfl), (Nat.le_of_ble_eq_true rfl)⟩)) (fun r36 _ H locs hw hP hD _ hS => ?_)
          obtain rfl := hw.symm
          obtain ⟨hP, hD⟩ := pd_mk ((a0, .inr (9, [g7, g8, g9, .ref a2, g10, g11, g12, g13, g14, g15, g16, g17, g18, g19, g20, .ref a3, g21, g22, g23, g24, g25, g26, g27, g28, g29, g30, g31, g32, g33, g34])) :: bX11 a2 uq kq q_q ([(a3, .inl (cB36, 26, .inl m_v))])) hP hD
          refine lv_aload_n hx hb (zat zrX12_meanOf_0_ok 21 rfl) rfl (lv_at hl 2 rfl) ?_
          refine va_get (D := (dC, dI)) (ci := 9) (v := .ref a2) (C := RX12) (T := TX12) (N := 30) hx hb hts ifX12_meanOf_X12 hown hK hP 0 rfl rfl 3 (by decide) (hts (.fieldLink RX12 299 "HookPierModel" "pier" "LHookPierModel$Pier;") (List.mem_of_getElem? (i := 1) rfl)) (fun _ h9 => h9) rfl (zat zrX12_meanOf_0_ok 22 rfl) ?_
          refine va_getN (D := (dC, dI)) (ci := 8) (v := .ref (uq 6)) (C := RX11) (T := TX11) (N := 24) hx hb hts ifX12_meanOf_X11 hown hK hP 1 rfl rfl 16 (by decide) (va_Nw.use rfl (hN.1 (.fieldLinkNest RX12 267 "HookPierModel$Pier" "worth" "[I" "HookPierModel") (List.mem_of_getElem? (i := 38) rfl))) (fun _ h9 => h9) rfl (zat zrX12_meanOf_0_ok 23 rfl) ?_
          refine lv_iload hx hb (zat zrX12_meanOf_0_ok 24 rfl) (lv_at hl 0 rfl) ?_
          obtain ⟨hg48, h⟩ := gA_of h
          refine va_iald hx hb hK hP 8 6 rfl rfl hg48 (zat zrX12_meanOf_0_ok 25 rfl) ?_
          refine lv_topi (fun z48 ez48 => ?_)
          have h := nm_of h z48 ez48
          refine lv_i2l hx hb (zat zrX12_meanOf_0_ok 26 rfl) rfl ?_
          refine lv_lmul hx hb (zat zrX12_meanOf_0_ok 27 rfl) ?_
          refine lv_ladd hx hb (zat zrX12_meanOf_0_ok 28 rfl) ?_
          refine lv_lstore_n (lv' := [(2, .long (v5_l2 + (o36 * (z48).toInt64))), (4, .int v5_l4), (0, .ref a0), (1, .int k1)]) hx hb (zat zrX12_meanOf_0_ok 29 rfl) rfl hl (by decide) rfl (fun ls hl => ?_)
          exact J53 (v5_l2 + (o36 * (z48).toInt64)) H _ ls h  hP hD hS (lv_sub hl [1, 0, 2, 3] rfl)
  exact L5 FU (0 : Int32) (0 : Int64) s.heap _ ls h  hP hD hS (lv_sub hl [0, 1, 2, 3] rfl)
noncomputable def zrX12_mean_0 : List ZR := zc 0 true (.aload_n 0) 1 (zc 1 true (.iconst 0) 1 (zc 2 true (.putfield 36) 3 (zc 5 true (.aload_n 0) 1 (zc 6 true (.aload_n 0) 1 (zc 7 true (.getfield 299) 3 (zc 10 true (.ifnull 7) 3 (zc 13 true (.iconst 1) 1 (zc 14 true (.goto 4) 3 (zc 17 false (.nop) 1 (zc 18 true (.iload_n 1) 1 (zc 19 true (.iload_n 2) 1 (zc 20 true (.iload_n 3) 1 (zc 21 true (.invokevirtual 353) 3 (zc 24 true (.istore 5) 2 (zc 26 true (.iload 5) 2 (zc 28 true (.ifCond .le 13) 3 (zc 31 true (.aload_n 0) 1 (zc 32 true (.iload 5) 2 (zc 34 true (.invokevirtual 42) 3 (zc 37 true (.i2l) 1 (zc 38 true (.goto 24) 3 (zc 41 true (.aload_n 0) 1 (zc 42 true (.aload_n 0) 1 (zc 43 true (.aload_n 0) 1 (zc 44 true (.iload_n 1) 1 (zc 45 true (.iload_n 2) 1 (zc 46 true (.iload_n 3) 1 (zc 47 true (.invokevirtual 357) 3 (zc 50 true (.invokevirtual 371) 3 (zc 53 true (.aload_n 0) 1 (zc 54 true (.invokevirtual 360) 3 (zc 57 true (.iload 4) 2 (zc 59 true (.invokevirtual 363) 3 (zc 62 true (.lreturn) 1 ([])))))))))))))))))))))))))))))))))))
theorem zrX12_mean_0_ok : zck 0 ((zby cX12_mean).drop 0) zrX12_mean_0 = true := by decide +kernel
def vfX12_mean : List Cond := List.cons (.code yX12_mean cX12_mean 6 (some .long)) (apW [.fieldLink RX12 36 "HookPierModel" "thrown" "I", .fieldLink RX12 299 "HookPierModel" "pier" "LHookPierModel$Pier;", .methodLink RX12 353 yX12_refusesQuestion, .instanceMethod yX12_refusesQuestion, .selects RX12 yX12_refusesQuestion yX12_refusesQuestion, .initialized RX12, .methodLink RX12 357 yX12_question, .instanceMethod yX12_question, .selects RX12 yX12_question yX12_question, .methodLink RX12 371 yX12_meanOf, .instanceMethod yX12_meanOf, .selects RX12 yX12_meanOf yX12_meanOf, .methodLink RX12 360 yX12_whole, .instanceMethod yX12_whole, .selects RX12 yX12_whole yX12_whole, .methodLink RX12 363 yX12_fraction, .instanceMethod yX12_fraction, .selects RX12 yX12_fraction yX12_fraction, .methodLink RX12 42 yX12_refused, .instanceMethod yX12_refused, .selects RX12 yX12_refused yX12_refused] (apW wsX120 (apW vfX12_refusesQuestion (apW vfX12_question (apW vfX12_meanOf (apW vfX12_whole (apW vfX12_fraction (vfX12_refused))))))))
theorem ifX12_mean_X12 : ∀ w ∈ wsX120, w ∈ vfX12_mean := fun _ h => (List.mem_cons_of_mem _ (List.mem_append_right _ (List.mem_append_left _ h)))
theorem qfX12_mean : Good vfX12_mean := gd_cons (by decide +kernel) (gd_app (gd_dec (by decide +kernel) : Good [.fieldLink RX12 36 "HookPierModel" "thrown" "I", .fieldLink RX12 299 "HookPierModel" "pier" "LHookPierModel$Pier;", .methodLink RX12 353 yX12_refusesQuestion, .instanceMethod yX12_refusesQuestion, .selects RX12 yX12_refusesQuestion yX12_refusesQuestion, .initialized RX12, .methodLink RX12 357 yX12_question, .instanceMethod yX12_question, .selects RX12 yX12_question yX12_question, .methodLink RX12 371 yX12_meanOf, .instanceMethod yX12_meanOf, .selects RX12 yX12_meanOf yX12_meanOf, .methodLink RX12 360 yX12_whole, .instanceMethod yX12_whole, .selects RX12 yX12_whole yX12_whole, .methodLink RX12 363 yX12_fraction, .instanceMethod yX12_fraction, .selects RX12 yX12_fraction yX12_fraction, .methodLink RX12 42 yX12_refused, .instanceMethod yX12_refused, .selects RX12 yX12_refused yX12_refused]) (gd_app qsX12 (gd_app qfX12_refusesQuestion (gd_app qfX12_question (gd_app qfX12_meanOf (gd_app qfX12_whole (gd_app qfX12_fraction qfX12_refused)))))))
theorem gfX12_mean_0 : GoodIn vfX12_mean (wsV RX12 353 RX12 yX12_refusesQuestion vfX12_refusesQuestion) := goodIn_app (goodIn_r [.methodLink RX12 353 yX12_refusesQuestion, .instanceMethod yX12_refusesQuestion, .selects RX12 yX12_refusesQuestion yX12_refusesQuestion, .initialized RX12] [3, 4, 5, 6] rfl (by decide +kernel)) (goodIn_m (fun _ h => (List.mem_cons_of_mem _ (List.mem_append_right _ (List.mem_append_right _ (List.mem_append_left _ h))))) qfX12_refusesQuestion)
theorem gfX12_mean_1 : GoodIn vfX12_mean (wsV RX12 357 RX12 yX12_question vfX12_question) := goodIn_app (goodIn_r [.methodLink RX12 357 yX12_question, .instanceMethod yX12_question, .selects RX12 yX12_question yX12_question, .initialized RX12] [7, 8, 9, 6] rfl (by decide +kernel)) (goodIn_m (fun _ h => (List.mem_cons_of_mem _ (List.mem_append_right _ (List.mem_append_right _ (List.mem_append_right _ (List.mem_append_left _ h)))))) qfX12_question)
theorem gfX12_mean_2 : GoodIn vfX12_mean (wsV RX12 371 RX12 yX12_meanOf vfX12_meanOf) := goodIn_app (goodIn_r [.methodLink RX12 371 yX12_meanOf, .instanceMethod yX12_meanOf, .selects RX12 yX12_meanOf yX12_meanOf, .initialized RX12] [10, 11, 12, 6] rfl (by decide +kernel)) (goodIn_m (fun _ h => (List.mem_cons_of_mem _ (List.mem_append_right _ (List.mem_append_right _ (List.mem_append_right _ (List.mem_append_right _ (List.mem_append_left _ h))))))) qfX12_meanOf)
theorem gfX12_mean_3 : GoodIn vfX12_mean (wsV RX12 360 RX12 yX12_whole vfX12_whole) := goodIn_app (goodIn_r [.methodLink RX12 360 yX12_whole, .instanceMethod yX12_whole, .selects RX12 yX12_whole yX12_whole, .initialized RX12] [13, 14, 15, 6] rfl (by decide +kernel)) (goodIn_m (fun _ h => (List.mem_cons_of_mem _ (List.mem_append_right _ (List.mem_append_right _ (List.mem_append_right _ (List.mem_append_right _ (List.mem_append_right _ (List.mem_append_left _ h)))))))) qfX12_whole)
theorem gfX12_mean_4 : GoodIn vfX12_mean (wsV RX12 363 RX12 yX12_fraction vfX12_fraction) := goodIn_app (goodIn_r [.methodLink RX12 363 yX12_fraction, .instanceMethod yX12_fraction, .selects RX12 yX12_fraction yX12_fraction, .initialized RX12] [16, 17, 18, 6] rfl (by decide +kernel)) (goodIn_m (fun _ h => (List.mem_cons_of_mem _ (List.mem_append_right _ (List.mem_append_right _ (List.mem_append_right _ (List.mem_append_right _ (List.mem_append_right _ (List.mem_append_right _ (List.mem_append_left _ h))))))))) qfX12_fraction)
theorem gfX12_mean_5 : GoodIn vfX12_mean (wsV RX12 42 RX12 yX12_refused vfX12_refused) := goodIn_app (goodIn_r [.methodLink RX12 42 yX12_refused, .instanceMethod yX12_refused, .selects RX12 yX12_refused yX12_refused, .initialized RX12] [19, 20, 21, 6] rfl (by decide +kernel)) (goodIn_m (fun _ h => (List.mem_cons_of_mem _ (List.mem_append_right _ (List.mem_append_right _ (List.mem_append_right _ (List.mem_append_right _ (List.mem_append_right _ (List.mem_append_right _ (List.mem_append_right _ h))))))))) qfX12_refused)
set_option maxHeartbeats 2000000 in
set_option maxRecDepth 100000 in
theorem kfX12_mean (l : Launch) (dC : Nat → ClassId) (dI : Nat → Nat → Nat) (a0 : Nat) (k1 : Int32) (k2 : Int32) (k3 : Int32) (k4 : Int32) (a5 : Nat) (a6 : Nat) (uq : Nat → Nat) (kq : Nat → ClassId) (m_t : TX12_t) (m_v : TX12_v) (g11 : Value) (g12 : Value) (g13 : Value) (g14 : Value) (g15 : Value) (g16 : Value) (g17 : Value) (g18 : Value) (g19 : Value) (g20 : Value) (g21 : Value) (g22 : Value) (g23 : Value) (g24 : Value) (g25 : Value) (g26 : Value) (g27 : Value) (g28 : Value) (g29 : Value) (g30 : Value) (g31 : Value) (g32 : Value) (g33 : Value) (g34 : Value) (g35 : Value) (q_q : TX11_q) (cB37 : ClassId) (sz : Nat) (out : (Int64 × TX12_t)) (h : f_X12_mean k1 k2 k3 k4 m_t m_v q_q = some out) : KCl l yX12_mean vfX12_mean ({ frames := 6, cells := 0, slots := 0, locals := 142 }) (dC, dI) [.ref a0, .int k1, .int k2, .int k3, .int k4] sz ((a0, .inr (9, [.int m_t.1, .int m_t.2.1, .int m_t.2.2, .ref a5, g11, g12, g13, g14, g15, g16, g17, g18, g19, g20, g21, .ref a6, g22, g23, g24, g25, g26, g27, g28, g29, g30, g31, g32, g33, g34, g35])) :: bX11 a5 uq kq q_q ([(a6, .inl (cB37, 26, .inl m_v))])) (tX11 kq ((cB37, .int) :: [])) (fun (r : Int64) _ => r = out.1) ((a0, .inr (9, [.int out.2.1, .int out.2.2.1, .int out.2.2.2, .ref a5, g11, g12, g13, g14, g15, g16, g17, g18, g19, g20, g21, .ref a6, g22, g23, g24, g25, g26, g27, g28, g29, g30, g31, g32, g33, g34, g35])) :: bX11 a5 uq kq q_q ([(a6, .inl (cB37, 26, .inl m_v))])) 0 0 := by
  refine Met.ofW (cc := cX12_mean) (maxL := 6) (ret := (some .long)) (by decide) rfl ?_
  intro p e s m args below meth c s₁ B0 hml hv
  obtain ⟨rfl, hsz, hP, hK, hD0, hN⟩ := hv
  have hx := B0.exec
  have hb := B0.bytes
  have hr := B0.returns
  have hts := atoms_spec (ws := vfX12_mean) B0.pre
  have hown : s.vm.findClass RX12 = some m.cls := findClass_of_methodNamed B0.named
  have hlocks := B0.notSynchronized
  subst hsz
  have hD := hD0.self (sz := s.heap.size)
  generalize hAe : va_A ((a0, .inr (9, [.int m_t.1, .int m_t.2.1, .int m_t.2.2, .ref a5, g11, g12, g13, g14, g15, g16, g17, g18, g19, g20, g21, .ref a6, g22, g23, g24, g25, g26, g27, g28, g29, g30, g31, g32, g33, g34, g35])) :: bX11 a5 uq kq q_q ([(a6, .inl (cB37, 26, .inl m_v))])) s.heap.size = A at hD ⊢
  have hA : ∀ q : Nat, s.heap.size ≤ q → A q := fun q h => by rw [← hAe]; exact Or.inr h
  have hS : va_S A s.heap s.heap [] := va_S.rf
  have hP : va_P (dC, dI) vwCl ((a0, .inr (9, [.int m_t.1, .int m_t.2.1, .int m_t.2.2, .ref a5, g11, g12, g13, g14, g15, g16, g17, g18, g19, g20, g21, .ref a6, g22, g23, g24, g25, g26, g27, g28, g29, g30, g31, g32, g33, g34, g35])) :: bX11 a5 uq kq q_q ([(a6, .inl (cB37, 26, .inl m_v))])) s.heap := hP
  have hl := lv_entry ([.ref a0, .int k1, .int k2, .int k3, .int k4]) (n := 6) (Nat.le_of_ble_eq_true rfl)
  rw [lg_entry_eq]
  generalize (lg_sl ([.ref a0, .int k1, .int k2, .int k3, .int k4]) ++ List.replicate (6 - (lg_sl ([.ref a0, .int k1, .int k2, .int k3, .int k4])).length) Slot.unset).toArray = ls at hl ⊢
  have hl : lv_has ls 6 [(0, .ref a0), (1, .int k1), (2, .int k2), (3, .int k3), (4, .int k4)] := hl
  refine W_q (fun QQ hQQ => ?_)
  rw [f_X12_mean] at h
  refine lv_aload_n hx hb (zat zrX12_mean_0_ok 0 rfl) rfl (lv_at hl 0 rfl) ?_
  refine lv_iconst (v := 0) hx hb (zat zrX12_mean_0_ok 1 rfl) (by decide) ?_
  refine va_put (D := (dC, dI)) (ci := 9) (v := .int 0) (ty := .int) (C := RX12) (T := TX12) (N := 30) hx hb hts ifX12_mean_X12 tyX12 tyX12_ok nmX12 hown hK hP hD hS 0 rfl rfl 0 (by decide) (hts (.fieldLink RX12 36 "HookPierModel" "thrown" "I") (List.mem_of_getElem? (i := 1) rfl)) (fun _ h9 => h9) rfl (by decide +kernel) rfl rfl (Nat.le_of_ble_eq_true rfl) (zat zrX12_mean_0_ok 2 rfl) (fun H locs hP hD hS => ?_)
  obtain ⟨hP, hD⟩ := pd_mk ((a0, .inr (9, [.int 0, .int m_t.2.1, .int m_t.2.2, .ref a5, g11, g12, g13, g14, g15, g16, g17, g18, g19, g20, g21, .ref a6, g22, g23, g24, g25, g26, g27, g28, g29, g30, g31, g32, g33, g34, g35])) :: bX11 a5 uq kq q_q ([(a6, .inl (cB37, 26, .inl m_v))])) hP hD
  refine lv_aload_n hx hb (zat zrX12_mean_0_ok 3 rfl) rfl (lv_at hl 0 rfl) ?_
  refine lv_aload_n hx hb (zat zrX12_mean_0_ok 4 rfl) rfl (lv_at hl 0 rfl) ?_
  refine va_get (D := (dC, dI)) (ci := 9) (v := .ref a5) (C := RX12) (T := TX12) (N := 30) hx hb hts ifX12_mean_X12 hown hK hP 0 rfl rfl 3 (by decide) (hts (.fieldLink RX12 299 "HookPierModel" "pier" "LHookPierModel$Pier;") (List.mem_of_getElem? (i := 2) rfl)) (fun _ h9 => h9) rfl (zat zrX12_mean_0_ok 5 rfl) ?_
  refine lv_ifnull hx hb (zat zrX12_mean_0_ok 6 rfl) ?_
  refine lv_iconst (v := 1) hx hb (zat zrX12_mean_0_ok 7 rfl) (by decide) ?_
  refine lv_goto (tgt := 18) hx hb (zat zrX12_mean_0_ok 8 rfl) (by decide) ?_
  refine lv_iload_n hx hb (zat zrX12_mean_0_ok 10 rfl) rfl (lv_at hl 1 rfl) ?_
  refine lv_iload_n hx hb (zat zrX12_mean_0_ok 11 rfl) rfl (lv_at hl 2 rfl) ?_
  refine lv_iload_n hx hb (zat zrX12_mean_0_ok 12 rfl) rfl (lv_at hl 3 rfl) ?_
  obtain ⟨o21, eo21⟩ : ∃ o, o = f_X12_refusesQuestion (1 : Int32) k1 k2 k3 q_q := ⟨_, rfl⟩
  have h := nm_of h o21 eo21
  refine ck_i (wc := ((a0, .inr (9, [.int 0, .int m_t.2.1, .int m_t.2.2, .ref a5, g11, g12, g13, g14, g15, g16, g17, g18, g19, g20, g21, .ref a6, g22, g23, g24, g25, g26, g27, g28, g29, g30, g31, g32, g33, g34, g35])) :: bX11 a5 uq kq q_q [])) (wr := ([(a6, .inl (cB37, 26, .inl m_v))])) hP hD hK hS hA [0, 1, 2, 3, 4, 5, 6, 7, 8, 9, 10, 11, 12, 13, 14, 15] [16] rfl rfl (by decide) (by decide) (by decide) (fun hPc hDc => (va_runV (As := [.int 1, .int k1, .int k2, .int k3]) (rest := []) ⟨hx, hb, hml, hown, hts⟩ (kfX12_refusesQuestion l dC dI a0 (1 : Int32) k1 k2 k3 a5 uq kq (.int 0) (.int m_t.2.1) (.int m_t.2.2) (g11) (g12) (g13) (g14) (g15) (g16) (g17) (g18) (g19) (g20) (g21) (.ref a6) (g22) (g23) (g24) (g25) (g26) (g27) (g28) (g29) (g30) (g31) (g32) (g33) (g34) (g35) q_q H.size o21 eo21.symm) (cwV 4 hts gfX12_mean_0 rfl rfl rfl (by decide +kernel) ⟨(Nat.le_of_ble_eq_true rfl), (Nat.le_of_ble_eq_true rfl)⟩) (PV hPc (hK.sub (tys' := (tX11 kq ([]))) [0, 1, 2, 3, 4, 5, 6, 7, 8, 9, 10, 11, 12, 13] rfl) hDc hN 0 rfl rfl) rfl rfl hl.1 rfl (lv_room (Nat.le_of_ble_eq_true rfl)) (zat zrX12_mean_0_ok 13 rfl) ⟨(Nat.le_of_ble_eq_true rfl), (Nat.le_of_ble_eq_true rfl)⟩)) (fun r21 _ H locs hw hP hD _ hS => ?_)
  obtain rfl := hw.symm
  obtain ⟨hP, hD⟩ := pd_mk ((a6, .inl (cB37, 26, .inl m_v)) :: (a0, .inr (9, [.int 0, .int m_t.2.1, .int m_t.2.2, .ref a5, g11, g12, g13, g14, g15, g16, g17, g18, g19, g20, g21, .ref a6, g22, g23, g24, g25, g26, g27, g28, g29, g30, g31, g32, g33, g34, g35])) :: bX11 a5 uq kq q_q []) hP hD
  refine lv_istore (lv' := [(5, .int o21), (0, .ref a0), (1, .int k1), (2, .int k2), (3, .int k3), (4, .int k4)]) hx hb (zat zrX12_mean_0_ok 14 rfl) hl (by decide) rfl (fun ls hl => ?_)
  refine lv_iload hx hb (zat zrX12_mean_0_ok 15 rfl) (lv_at hl 0 rfl) ?_
  refine lv_if_le (tgt := 41) hx hb (zat zrX12_mean_0_ok 16 rfl) (by decide) (fun c28 => ?_) (fun c28 => ?_)
  · have h := (if_pos c28).symm.trans h
    refine lv_aload_n hx hb (zat zrX12_mean_0_ok 22 rfl) rfl (lv_at hl 1 rfl) ?_
    refine lv_aload_n hx hb (zat zrX12_mean_0_ok 23 rfl) rfl (lv_at hl 1 rfl) ?_
    refine lv_aload_n hx hb (zat zrX12_mean_0_ok 24 rfl) rfl (lv_at hl 1 rfl) ?_
    refine lv_iload_n hx hb (zat zrX12_mean_0_ok 25 rfl) rfl (lv_at hl 2 rfl) ?_
    refine lv_iload_n hx hb (zat zrX12_mean_0_ok 26 rfl) rfl (lv_at hl 3 rfl) ?_
    refine lv_iload_n hx hb (zat zrX12_mean_0_ok 27 rfl) rfl (lv_at hl 4 rfl) ?_
    obtain ⟨o47, eo47⟩ : ∃ o, o = f_X12_question k1 k2 k3 q_q := ⟨_, rfl⟩
    have h := nm_of h o47 eo47
    refine ck_i (wc := ((a0, .inr (9, [.int 0, .int m_t.2.1, .int m_t.2.2, .ref a5, g11, g12, g13, g14, g15, g16, g17, g18, g19, g20, g21, .ref a6, g22, g23, g24, g25, g26, g27, g28, g29, g30, g31, g32, g33, g34, g35])) :: bX11 a5 uq kq q_q [])) (wr := ([(a6, .inl (cB37, 26, .inl m_v))])) hP hD hK hS hA [1, 2, 3, 4, 5, 6, 7, 8, 9, 10, 11, 12, 13, 14, 15, 16] [0] rfl rfl (by decide) (by decide) (by decide) (fun hPc hDc => (va_runV (As := [.int k1, .int k2, .int k3]) (rest := [.ref a0, .ref a0]) ⟨hx, hb, hml, hown, hts⟩ (kfX12_question l dC dI a0 k1 k2 k3 a5 uq kq (.int 0) (.int m_t.2.1) (.int m_t.2.2) (g11) (g12) (g13) (g14) (g15) (g16) (g17) (g18) (g19) (g20) (g21) (.ref a6) (g22) (g23) (g24) (g25) (g26) (g27) (g28) (g29) (g30) (g31) (g32) (g33) (g34) (g35) q_q H.size o47 eo47.symm) (cwV 3 hts gfX12_mean_1 rfl rfl rfl (by decide +kernel) ⟨(Nat.le_of_ble_eq_true rfl), (Nat.le_of_ble_eq_true rfl)⟩) (PV hPc (hK.sub (tys' := (tX11 kq ([]))) [0, 1, 2, 3, 4, 5, 6, 7, 8, 9, 10, 11, 12, 13] rfl) hDc hN 0 rfl rfl) rfl rfl hl.1 rfl (lv_room (Nat.le_of_ble_eq_true rfl)) (zat zrX12_mean_0_ok 28 rfl) ⟨(Nat.le_of_ble_eq_true rfl), (Nat.le_of_ble_eq_true rfl)⟩)) (fun r47 _ H locs hw hP hD _ hS => ?_)
    obtain rfl := hw.symm
    obtain ⟨hP, hD⟩ := pd_mk ((a6, .inl (cB37, 26, .inl m_v)) :: (a0, .inr (9, [.int 0, .int m_t.2.1, .int m_t.2.2, .ref a5, g11, g12, g13, g14, g15, g16, g17, g18, g19, g20, g21, .ref a6, g22, g23, g24, g25, g26, g27, g28, g29, g30, g31, g32, g33, g34, g35])) :: bX11 a5 uq kq q_q []) hP hD
    obtain ⟨o50, eo50, h⟩ := bd_of h
    refine ck_l (wc := ((a0, .inr (9, [.int 0, .int m_t.2.1, .int m_t.2.2, .ref a5, g11, g12, g13, g14, g15, g16, g17, g18, g19, g20, g21, .ref a6, g22, g23, g24, g25, g26, g27, g28, g29, g30, g31, g32, g33, g34, g35])) :: bX11 a5 uq kq q_q ([(a6, .inl (cB37, 26, .inl m_v))]))) (wr := []) hP hD hK hS hA [1, 2, 3, 4, 5, 6, 7, 8, 9, 10, 11, 12, 13, 14, 15, 16, 0] [] rfl rfl (by decide) (by decide) (by decide) (fun hPc hDc => (va_runV (As := [.int o47]) (rest := [.ref a0]) ⟨hx, hb, hml, hown, hts⟩ (kfX12_meanOf l dC dI a0 o47 a5 a6 uq kq m_v (.int 0) (.int m_t.2.1) (.int m_t.2.2) (g11) (g12) (g13) (g14) (g15) (g16) (g17) (g18) (g19) (g20) (g21) (g22) (g23) (g24) (g25) (g26) (g27) (g28) (g29) (g30) (g31) (g32) (g33) (g34) (g35) q_q cB37 H.size o50 eo50) (cwV 1 hts gfX12_mean_2 rfl rfl rfl (by decide +kernel) ⟨(Nat.le_of_ble_eq_true rfl), (Nat.le_of_ble_eq_true rfl)⟩) (PV hPc (hK.sub (tys' := (tX11 kq ((cB37, .int) :: []))) [0, 1, 2, 3, 4, 5, 6, 7, 8, 9, 10, 11, 12, 13, 14] rfl) hDc hN 0 rfl rfl) rfl rfl hl.1 rfl (lv_room (Nat.le_of_ble_eq_true rfl)) (zat zrX12_mean_0_ok 29 rfl) ⟨(Nat.le_of_ble_eq_true rfl), (Nat.le_of_ble_eq_true rfl)⟩)) (fun r50 _ H locs hw hP hD _ hS => ?_)
    obtain rfl := hw.symm
    obtain ⟨hP, hD⟩ := pd_mk ((a0, .inr (9, [.int 0, .int m_t.2.1, .int m_t.2.2, .ref a5, g11, g12, g13, g14, g15, g16, g17, g18, g19, g20, g21, .ref a6, g22, g23, g24, g25, g26, g27, g28, g29, g30, g31, g32, g33, g34, g35])) :: bX11 a5 uq kq q_q ([(a6, .inl (cB37, 26, .inl m_v))])) hP hD
    refine lv_aload_n hx hb (zat zrX12_mean_0_ok 30 rfl) rfl (lv_at hl 1 rfl) ?_
    obtain ⟨o54, eo54, h⟩ := bd_of h
    refine ck_l (wc := ((a0, .inr (9, [.int 0, .int m_t.2.1, .int m_t.2.2, .ref a5, g11, g12, g13, g14, g15, g16, g17, g18, g19, g20, g21, .ref a6, g22, g23, g24, g25, g26, g27, g28, g29, g30, g31, g32, g33, g34, g35])) :: bX11 a5 uq kq q_q ([(a6, .inl (cB37, 26, .inl m_v))]))) (wr := []) hP hD hK hS hA [0, 1, 2, 3, 4, 5, 6, 7, 8, 9, 10, 11, 12, 13, 14, 15, 16] [] rfl rfl (by decide) (by decide) (by decide) (fun hPc hDc => (va_runV (As := []) (rest := [.long o50, .ref a0]) ⟨hx, hb, hml, hown, hts⟩ (kfX12_whole l dC dI a0 a5 a6 uq kq m_v (.int 0) (.int m_t.2.1) (.int m_t.2.2) (g11) (g12) (g13) (g14) (g15) (g16) (g17) (g18) (g19) (g20) (g21) (g22) (g23) (g24) (g25) (g26) (g27) (g28) (g29) (g30) (g31) (g32) (g33) (g34) (g35) q_q cB37 H.size o54 eo54) (cwV 0 hts gfX12_mean_3 rfl rfl rfl (by decide +kernel) ⟨(Nat.le_of_ble_eq_true rfl), (Nat.le_of_ble_eq_true rfl)⟩) (PV hPc (hK.sub (tys' := (tX11 kq ((cB37, .int) :: []))) [0, 1, 2, 3, 4, 5, 6, 7, 8, 9, 10, 11, 12, 13, 14] rfl) hDc hN 0 rfl rfl) rfl rfl hl.1 rfl (lv_room (Nat.le_of_ble_eq_true rfl)) (zat zrX12_mean_0_ok 31 rfl) ⟨(Nat.le_of_ble_eq_true rfl), (Nat.le_of_ble_eq_true rfl)⟩)) (fun r54 _ H locs hw hP hD _ hS => ?_)
    obtain rfl := hw.symm
    obtain ⟨hP, hD⟩ := pd_mk ((a0, .inr (9, [.int 0, .int m_t.2.1, .int m_t.2.2, .ref a5, g11, g12, g13, g14, g15, g16, g17, g18, g19, g20, g21, .ref a6, g22, g23, g24, g25, g26, g27, g28, g29, g30, g31, g32, g33, g34, g35])) :: bX11 a5 uq kq q_q ([(a6, .inl (cB37, 26, .inl m_v))])) hP hD
    refine lv_iload hx hb (zat zrX12_mean_0_ok 32 rfl) (lv_at hl 5 rfl) ?_
    obtain ⟨o59, eo59, h⟩ := bd_of h
    refine ck_l (wc := ([(a0, .inr (9, [.int 0, .int m_t.2.1, .int m_t.2.2, .ref a5, g11, g12, g13, g14, g15, g16, g17, g18, g19, g20, g21, .ref a6, g22, g23, g24, g25, g26, g27, g28, g29, g30, g31, g32, g33, g34, g35]))])) (wr := (bX11 a5 uq kq q_q ([(a6, .inl (cB37, 26, .inl m_v))]))) hP hD hK hS hA [0] [1, 2, 3, 4, 5, 6, 7, 8, 9, 10, 11, 12, 13, 14, 15, 16] rfl rfl (by decide) (by decide) (by decide) (fun hPc hDc => (va_runV (As := [.long o50, .long o54, .int k4]) (rest := []) ⟨hx, hb, hml, hown, hts⟩ (kfX12_fraction l dC dI a0 o50 o54 k4 ((0 : Int32), m_t.2) (.ref a5) (g11) (g12) (g13) (g14) (g15) (g16) (g17) (g18) (g19) (g20) (g21) (.ref a6) (g22) (g23) (g24) (g25) (g26) (g27) (g28) (g29) (g30) (g31) (g32) (g33) (g34) (g35) H.size o59 eo59) (cwV 3 hts gfX12_mean_4 rfl rfl rfl (by decide +kernel) ⟨(Nat.le_of_ble_eq_true rfl), (Nat.le_of_ble_eq_true rfl)⟩) (PV hPc (hK.sub (tys' := ([])) [] rfl) hDc hN 0 rfl rfl) rfl rfl hl.1 rfl (lv_room (Nat.le_of_ble_eq_true rfl)) (zat zrX12_mean_0_ok 33 rfl) ⟨(Nat.le_of_ble_eq_true rfl), (Nat.le_of_ble_eq_true rfl)⟩)) (fun r59 _ H locs hw hP hD _ hS => ?_)
    obtain rfl := hw
    obtain ⟨hP, hD⟩ := pd_mk (bX11 a5 uq kq q_q ([(a6, .inl (cB37, 26, .inl m_v)), (a0, .inr (9, [.int o59.2.1, .int o59.2.2.1, .int o59.2.2.2, .ref a5, g11, g12, g13, g14, g15, g16, g17, g18, g19, g20, g21, .ref a6, g22, g23, g24, g25, g26, g27, g28, g29, g30, g31, g32, g33, g34, g35]))])) hP hD
    obtain rfl := Option.some.inj h
    obtain ⟨hP9, hD9⟩ := pd_sub ((a0, .inr (9, [.int o59.2.1, .int o59.2.2.1, .int o59.2.2.2, .ref a5, g11, g12, g13, g14, g15, g16, g17, g18, g19, g20, g21, .ref a6, g22, g23, g24, g25, g26, g27, g28, g29, g30, g31, g32, g33, g34, g35])) :: bX11 a5 uq kq q_q ([(a6, .inl (cB37, 26, .inl m_v))])) [16, 0, 1, 2, 3, 4, 5, 6, 7, 8, 9, 10, 11, 12, 13, 14, 15] hP hD (by decide) rfl
    have hK9 := hK.sub (tys' := []) [] rfl
    rw [hQQ]
    exact W.lret (v := o59.1) hx hb hr (fun t ht hW => ⟨⟨o59.1, (), rfl, rfl, by rw [ht]; exact hP9, va_K.moved hW.alike hK9, hD9⟩, hS.F ht⟩) hS.2.2 (zat zrX12_mean_0_ok 34 rfl)
  · have h := (if_neg c28).symm.trans h
    refine lv_aload_n hx hb (zat zrX12_mean_0_ok 17 rfl) rfl (lv_at hl 1 rfl) ?_
    refine lv_iload hx hb (zat zrX12_mean_0_ok 18 rfl) (lv_at hl 0 rfl) ?_
    obtain ⟨o34, eo34⟩ : ∃ o, o = f_X12_refused o21 ((0 : Int32), m_t.2) := ⟨_, rfl⟩
    have h := nm_of h o34 eo34
    refine ck_i (wc := ([(a0, .inr (9, [.int 0, .int m_t.2.1, .int m_t.2.2, .ref a5, g11, g12, g13, g14, g15, g16, g17, g18, g19, g20, g21, .ref a6, g22, g23, g24, g25, g26, g27, g28, g29, g30, g31, g32, g33, g34, g35]))])) (wr := ((a6, .inl (cB37, 26, .inl m_v)) :: bX11 a5 uq kq q_q [])) hP hD hK hS hA [1] [0, 2, 3, 4, 5, 6, 7, 8, 9, 10, 11, 12, 13, 14, 15, 16] rfl rfl (by decide) (by decide) (by decide) (fun hPc hDc => (va_runV (As := [.int o21]) (rest := []) ⟨hx, hb, hml, hown, hts⟩ (kfX12_refused l dC dI a0 o21 ((0 : Int32), m_t.2) (.ref a5) (g11) (g12) (g13) (g14) (g15) (g16) (g17) (g18) (g19) (g20) (g21) (.ref a6) (g22) (g23) (g24) (g25) (g26) (g27) (g28) (g29) (g30) (g31) (g32) (g33) (g34) (g35) H.size o34 eo34.symm) (cwV 1 hts gfX12_mean_5 rfl rfl rfl (by decide +kernel) ⟨(Nat.le_of_ble_eq_true rfl), (Nat.le_of_ble_eq_true rfl)⟩) (PV hPc (hK.sub (tys' := ([])) [] rfl) hDc hN 0 rfl rfl) rfl rfl hl.1 rfl (lv_room (Nat.le_of_ble_eq_true rfl)) (zat zrX12_mean_0_ok 19 rfl) ⟨(Nat.le_of_ble_eq_true rfl), (Nat.le_of_ble_eq_true rfl)⟩)) (fun r34 _ H locs hw hP hD _ hS => ?_)
    obtain rfl := hw
    obtain ⟨hP, hD⟩ := pd_mk ((a6, .inl (cB37, 26, .inl m_v)) :: bX11 a5 uq kq q_q ([(a0, .inr (9, [.int o34.1, .int o34.2.1, .int o34.2.2, .ref a5, g11, g12, g13, g14, g15, g16, g17, g18, g19, g20, g21, .ref a6, g22, g23, g24, g25, g26, g27, g28, g29, g30, g31, g32, g33, g34, g35]))])) hP hD
    refine lv_i2l (v := (-1)) hx hb (zat zrX12_mean_0_ok 20 rfl) (by decide) ?_
    refine lv_goto (tgt := 62) hx hb (zat zrX12_mean_0_ok 21 rfl) (by decide) ?_
    obtain rfl := Option.some.inj h
    obtain ⟨hP9, hD9⟩ := pd_sub ((a0, .inr (9, [.int o34.1, .int o34.2.1, .int o34.2.2, .ref a5, g11, g12, g13, g14, g15, g16, g17, g18, g19, g20, g21, .ref a6, g22, g23, g24, g25, g26, g27, g28, g29, g30, g31, g32, g33, g34, g35])) :: bX11 a5 uq kq q_q ([(a6, .inl (cB37, 26, .inl m_v))])) [16, 1, 2, 3, 4, 5, 6, 7, 8, 9, 10, 11, 12, 13, 14, 15, 0] hP hD (by decide) rfl
    have hK9 := hK.sub (tys' := []) [] rfl
    rw [hQQ]
    exact W.lret (v := (-1 : Int64)) hx hb hr (fun t ht hW => ⟨⟨(-1 : Int64), (), rfl, rfl, by rw [ht]; exact hP9, va_K.moved hW.alike hK9, hD9⟩, hS.F ht⟩) hS.2.2 (zat zrX12_mean_0_ok 34 rfl)
noncomputable def zrX12_likeliest_0 : List ZR := zc 0 true (.aload_n 0) 1 (zc 1 true (.iconst 0) 1 (zc 2 true (.putfield 36) 3 (zc 5 true (.aload_n 0) 1 (zc 6 true (.aload_n 0) 1 (zc 7 true (.getfield 299) 3 (zc 10 true (.ifnull 7) 3 (zc 13 true (.iconst 1) 1 (zc 14 true (.goto 4) 3 (zc 17 false (.nop) 1 (zc 18 true (.iload_n 1) 1 (zc 19 true (.iload_n 2) 1 (zc 20 true (.iload_n 3) 1 (zc 21 true (.invokevirtual 353) 3 (zc 24 true (.istore 4) 2 (zc 26 true (.iload 4) 2 (zc 28 true (.ifCond .le 10) 3 (zc 31 true (.aload_n 0) 1 (zc 32 true (.iload 4) 2 (zc 34 true (.invokevirtual 42) 3 (zc 37 true (.ireturn) 1 (zc 38 true (.aload_n 0) 1 (zc 39 true (.iload_n 1) 1 (zc 40 true (.iload_n 2) 1 (zc 41 true (.iload_n 3) 1 (zc 42 true (.invokevirtual 357) 3 (zc 45 true (.istore 5) 2 (zc 47 true (.bipush (-2)) 2 (zc 49 true (.istore 6) 2 (zc 51 true (.lconst 0) 1 (zc 52 true (.lstore 7) 2 (zc 54 true (.iconst 0) 1 (zc 55 true (.istore 9) 2 (zc 57 true (.iload 9) 2 (zc 59 true (.aload_n 0) 1 (zc 60 true (.getfield 299) 3 (zc 63 true (.getfield 231) 3 (zc 66 true (.if_icmp .ge 40) 3 (zc 69 true (.aload_n 0) 1 (zc 70 true (.iload 9) 2 (zc 72 true (.iload 5) 2 (zc 74 true (.invokevirtual 349) 3 (zc 77 true (.lload 7) 2 (zc 79 true (.lcmp) 1 (zc 80 true (.ifCond .gt 6) 3 (zc 83 true (.goto 17) 3 (zc 86 true (.aload_n 0) 1 (zc 87 true (.iload 9) 2 (zc 89 true (.iload 5) 2 (zc 91 true (.invokevirtual 349) 3 (zc 94 true (.lstore 7) 2 (zc 96 true (.iload 9) 2 (zc 98 true (.istore 6) 2 (zc 100 true (.iinc 9 1) 3 (zc 103 true (.goto (-46)) 3 (zc 106 true (.aload_n 0) 1 (zc 107 true (.iload 6) 2 (zc 109 true (.invokevirtual 46) 3 (zc 112 true (.ireturn) 1 ([])))))))))))))))))))))))))))))))))))))))))))))))))))))))))))
theorem zrX12_likeliest_0_ok : zck 0 ((zby cX12_likeliest).drop 0) zrX12_likeliest_0 = true := by decide +kernel
def vfX12_likeliest : List Cond := List.cons (.code yX12_likeliest cX12_likeliest 10 (some .int)) (apW [.fieldLink RX12 36 "HookPierModel" "thrown" "I", .fieldLink RX12 299 "HookPierModel" "pier" "LHookPierModel$Pier;", .methodLink RX12 353 yX12_refusesQuestion, .instanceMethod yX12_refusesQuestion, .selects RX12 yX12_refusesQuestion yX12_refusesQuestion, .initialized RX12, .methodLink RX12 357 yX12_question, .instanceMethod yX12_question, .selects RX12 yX12_question yX12_question, .methodLink RX12 46 yX12_good, .instanceMethod yX12_good, .selects RX12 yX12_good yX12_good, .methodLink RX12 349 yX12_oddsOf, .instanceMethod yX12_oddsOf, .selects RX12 yX12_oddsOf yX12_oddsOf, .methodLink RX12 42 yX12_refused, .instanceMethod yX12_refused, .selects RX12 yX12_refused yX12_refused] (apW wsX120 (apW wsX110 (apW vfX12_refusesQuestion (apW vfX12_question (apW vfX12_good (apW vfX12_oddsOf (vfX12_refused))))))))
theorem ifX12_likeliest_X12 : ∀ w ∈ wsX120, w ∈ vfX12_likeliest := fun _ h => (List.mem_cons_of_mem _ (List.mem_append_right _ (List.mem_append_left _ h)))
theorem ifX12_likeliest_X11 : ∀ w ∈ wsX110, w ∈ vfX12_likeliest := fun _ h => (List.mem_cons_of_mem _ (List.mem_append_right _ (List.mem_append_right _ (List.mem_append_left _ h))))
theorem qfX12_likeliest : Good vfX12_likeliest := gd_cons (by decide +kernel) (gd_app (gd_dec (by decide +kernel) : Good [.fieldLink RX12 36 "HookPierModel" "thrown" "I", .fieldLink RX12 299 "HookPierModel" "pier" "LHookPierModel$Pier;", .methodLink RX12 353 yX12_refusesQuestion, .instanceMethod yX12_refusesQuestion, .selects RX12 yX12_refusesQuestion yX12_refusesQuestion, .initialized RX12, .methodLink RX12 357 yX12_question, .instanceMethod yX12_question, .selects RX12 yX12_question yX12_question, .methodLink RX12 46 yX12_good, .instanceMethod yX12_good, .selects RX12 yX12_good yX12_good, .methodLink RX12 349 yX12_oddsOf, .instanceMethod yX12_oddsOf, .selects RX12 yX12_oddsOf yX12_oddsOf, .methodLink RX12 42 yX12_refused, .instanceMethod yX12_refused, .selects RX12 yX12_refused yX12_refused]) (gd_app qsX12 (gd_app qsX11 (gd_app qfX12_refusesQuestion (gd_app qfX12_question (gd_app qfX12_good (gd_app qfX12_oddsOf qfX12_refused)))))))
theorem gfX12_likeliest_0 : GoodIn vfX12_likeliest (wsV RX12 353 RX12 yX12_refusesQuestion vfX12_refusesQuestion) := goodIn_app (goodIn_r [.methodLink RX12 353 yX12_refusesQuestion, .instanceMethod yX12_refusesQuestion, .selects RX12 yX12_refusesQuestion yX12_refusesQuestion, .initialized RX12] [3, 4, 5, 6] rfl (by decide +kernel)) (goodIn_m (fun _ h => (List.mem_cons_of_mem _ (List.mem_append_right _ (List.mem_append_right _ (List.mem_append_right _ (List.mem_append_left _ h)))))) qfX12_refusesQuestion)
theorem gfX12_likeliest_1 : GoodIn vfX12_likeliest (wsV RX12 357 RX12 yX12_question vfX12_question) := goodIn_app (goodIn_r [.methodLink RX12 357 yX12_question, .instanceMethod yX12_question, .selects RX12 yX12_question yX12_question, .initialized RX12] [7, 8, 9, 6] rfl (by decide +kernel)) (goodIn_m (fun _ h => (List.mem_cons_of_mem _ (List.mem_append_right _ (List.mem_append_right _ (List.mem_append_right _ (List.mem_append_right _ (List.mem_append_left _ h))))))) qfX12_question)
theorem gfX12_likeliest_2 : GoodIn vfX12_likeliest (wsV RX12 46 RX12 yX12_good vfX12_good) := goodIn_app (goodIn_r [.methodLink RX12 46 yX12_good, .instanceMethod yX12_good, .selects RX12 yX12_good yX12_good, .initialized RX12] [10, 11, 12, 6] rfl (by decide +kernel)) (goodIn_m (fun _ h => (List.mem_cons_of_mem _ (List.mem_append_right _ (List.mem_append_right _ (List.mem_append_right _ (List.mem_append_right _ (List.mem_append_right _ (List.mem_append_left _ h)))))))) qfX12_good)
theorem gfX12_likeliest_3 : GoodIn vfX12_likeliest (wsV RX12 349 RX12 yX12_oddsOf vfX12_oddsOf) := goodIn_app (goodIn_r [.methodLink RX12 349 yX12_oddsOf, .instanceMethod yX12_oddsOf, .selects RX12 yX12_oddsOf yX12_oddsOf, .initialized RX12] [13, 14, 15, 6] rfl (by decide +kernel)) (goodIn_m (fun _ h => (List.mem_cons_of_mem _ (List.mem_append_right _ (List.mem_append_right _ (List.mem_append_right _ (List.mem_append_right _ (List.mem_append_right _ (List.mem_append_right _ (List.mem_append_left _ h))))))))) qfX12_oddsOf)
theorem gfX12_likeliest_4 : GoodIn vfX12_likeliest (wsV RX12 42 RX12 yX12_refused vfX12_refused) := goodIn_app (goodIn_r [.methodLink RX12 42 yX12_refused, .instanceMethod yX12_refused, .selects RX12 yX12_refused yX12_refused, .initialized RX12] [16, 17, 18, 6] rfl (by decide +kernel)) (goodIn_m (fun _ h => (List.mem_cons_of_mem _ (List.mem_append_right _ (List.mem_append_right _ (List.mem_append_right _ (List.mem_append_right _ (List.mem_append_right _ (List.mem_append_right _ (List.mem_append_right _ h))))))))) qfX12_refused)
set_option maxHeartbeats 2000000 in
set_option maxRecDepth 100000 in
theorem kfX12_likeliest (l : Launch) (dC : Nat → ClassId) (dI : Nat → Nat → Nat) (a0 : Nat) (k1 : Int32) (k2 : Int32) (k3 : Int32) (a4 : Nat) (a5 : Nat) (uq : Nat → Nat) (kq : Nat → ClassId) (m_t : TX12_t) (m_v : TX12_v) (g10 : Value) (g11 : Value) (g12 : Value) (g13 : Value) (g14 : Value) (g15 : Value) (g16 : Value) (g17 : Value) (g18 : Value) (g19 : Value) (g20 : Value) (g21 : Value) (g22 : Value) (g23 : Value) (g24 : Value) (g25 : Value) (g26 : Value) (g27 : Value) (g28 : Value) (g29 : Value) (g30 : Value) (g31 : Value) (g32 : Value) (g33 : Value) (g34 : Value) (q_q : TX11_q) (cB36 : ClassId) (sz : Nat) (out : (Int32 × TX12_t)) (h : f_X12_likeliest k1 k2 k3 m_t m_v q_q = some out) : KCi l yX12_likeliest vfX12_likeliest ({ frames := 5, cells := 0, slots := 0, locals := 118 }) (dC, dI) [.ref a0, .int k1, .int k2, .int k3] sz ((a0, .inr (9, [.int m_t.1, .int m_t.2.1, .int m_t.2.2, .ref a4, g10, g11, g12, g13, g14, g15, g16, g17, g18, g19, g20, .ref a5, g21, g22, g23, g24, g25, g26, g27, g28, g29, g30, g31, g32, g33, g34])) :: bX11 a4 uq kq q_q ([(a5, .inl (cB36, 26, .inl m_v))])) (tX11 kq ((cB36, .int) :: [])) (fun (r : Int32) _ => r = out.1) ((a0, .inr (9, [.int out.2.1, .int out.2.2.1, .int out.2.2.2, .ref a4, g10, g11, g12, g13, g14, g15, g16, g17, g18, g19, g20, .ref a5, g21, g22, g23, g24, g25, g26, g27, g28, g29, g30, g31, g32, g33, g34])) :: bX11 a4 uq kq q_q ([(a5, .inl (cB36, 26, .inl m_v))])) 0 0 := by
  refine Met.ofW (cc := cX12_likeliest) (maxL := 10) (ret := (some .int)) (by decide) rfl ?_
  intro p e s m args below meth c s₁ B0 hml hv
  obtain ⟨rfl, hsz, hP, hK, hD0, hN⟩ := hv
  have hx := B0.exec
  have hb := B0.bytes
  have hr := B0.returns
  have hts := atoms_spec (ws := vfX12_likeliest) B0.pre
  have hown : s.vm.findClass RX12 = some m.cls := findClass_of_methodNamed B0.named
  have hlocks := B0.notSynchronized
  subst hsz
  have hD := hD0.self (sz := s.heap.size)
  generalize hAe : va_A ((a0, .inr (9, [.int m_t.1, .int m_t.2.1, .int m_t.2.2, .ref a4, g10, g11, g12, g13, g14, g15, g16, g17, g18, g19, g20, .ref a5, g21, g22, g23, g24, g25, g26, g27, g28, g29, g30, g31, g32, g33, g34])) :: bX11 a4 uq kq q_q ([(a5, .inl (cB36, 26, .inl m_v))])) s.heap.size = A at hD ⊢
  have hA : ∀ q : Nat, s.heap.size ≤ q → A q := fun q h => by rw [← hAe]; exact Or.inr h
  have hS : va_S A s.heap s.heap [] := va_S.rf
  have hP : va_P (dC, dI) vwCl ((a0, .inr (9, [.int m_t.1, .int m_t.2.1, .int m_t.2.2, .ref a4, g10, g11, g12, g13, g14, g15, g16, g17, g18, g19, g20, .ref a5, g21, g22, g23, g24, g25, g26, g27, g28, g29, g30, g31, g32, g33, g34])) :: bX11 a4 uq kq q_q ([(a5, .inl (cB36, 26, .inl m_v))])) s.heap := hP
  have hl := lv_entry ([.ref a0, .int k1, .int k2, .int k3]) (n := 10) (Nat.le_of_ble_eq_true rfl)
  rw [lg_entry_eq]
  generalize (lg_sl ([.ref a0, .int k1, .int k2, .int k3]) ++ List.replicate (10 - (lg_sl ([.ref a0, .int k1, .int k2, .int k3])).length) Slot.unset).toArray = ls at hl ⊢
  have hl : lv_has ls 10 [(0, .ref a0), (1, .int k1), (2, .int k2), (3, .int k3)] := hl
  refine W_q (fun QQ hQQ => ?_)
  rw [f_X12_likeliest] at h
  refine lv_aload_n hx hb (zat zrX12_likeliest_0_ok 0 rfl) rfl (lv_at hl 0 rfl) ?_
  refine lv_iconst (v := 0) hx hb (zat zrX12_likeliest_0_ok 1 rfl) (by decide) ?_
  refine va_put (D := (dC, dI)) (ci := 9) (v := .int 0) (ty := .int) (C := RX12) (T := TX12) (N := 30) hx hb hts ifX12_likeliest_X12 tyX12 tyX12_ok nmX12 hown hK hP hD hS 0 rfl rfl 0 (by decide) (hts (.fieldLink RX12 36 "HookPierModel" "thrown" "I") (List.mem_of_getElem? (i := 1) rfl)) (fun _ h9 => h9) rfl (by decide +kernel) rfl rfl (Nat.le_of_ble_eq_true rfl) (zat zrX12_likeliest_0_ok 2 rfl) (fun H locs hP hD hS => ?_)
  obtain ⟨hP, hD⟩ := pd_mk ((a0, .inr (9, [.int 0, .int m_t.2.1, .int m_t.2.2, .ref a4, g10, g11, g12, g13, g14, g15, g16, g17, g18, g19, g20, .ref a5, g21, g22, g23, g24, g25, g26, g27, g28, g29, g30, g31, g32, g33, g34])) :: bX11 a4 uq kq q_q ([(a5, .inl (cB36, 26, .inl m_v))])) hP hD
  refine lv_aload_n hx hb (zat zrX12_likeliest_0_ok 3 rfl) rfl (lv_at hl 0 rfl) ?_
  refine lv_aload_n hx hb (zat zrX12_likeliest_0_ok 4 rfl) rfl (lv_at hl 0 rfl) ?_
  refine va_get (D := (dC, dI)) (ci := 9) (v := .ref a4) (C := RX12) (T := TX12) (N := 30) hx hb hts ifX12_likeliest_X12 hown hK hP 0 rfl rfl 3 (by decide) (hts (.fieldLink RX12 299 "HookPierModel" "pier" "LHookPierModel$Pier;") (List.mem_of_getElem? (i := 2) rfl)) (fun _ h9 => h9) rfl (zat zrX12_likeliest_0_ok 5 rfl) ?_
  refine lv_ifnull hx hb (zat zrX12_likeliest_0_ok 6 rfl) ?_
  refine lv_iconst (v := 1) hx hb (zat zrX12_likeliest_0_ok 7 rfl) (by decide) ?_
  refine lv_goto (tgt := 18) hx hb (zat zrX12_likeliest_0_ok 8 rfl) (by decide) ?_
  refine lv_iload_n hx hb (zat zrX12_likeliest_0_ok 10 rfl) rfl (lv_at hl 1 rfl) ?_
  refine lv_iload_n hx hb (zat zrX12_likeliest_0_ok 11 rfl) rfl (lv_at hl 2 rfl) ?_
  refine lv_iload_n hx hb (zat zrX12_likeliest_0_ok 12 rfl) rfl (lv_at hl 3 rfl) ?_
  obtain ⟨o21, eo21⟩ : ∃ o, o = f_X12_refusesQuestion (1 : Int32) k1 k2 k3 q_q := ⟨_, rfl⟩
  have h := nm_of h o21 eo21
  refine ck_i (wc := ((a0, .inr (9, [.int 0, .int m_t.2.1, .int m_t.2.2, .ref a4, g10, g11, g12, g13, g14, g15, g16, g17, g18, g19, g20, .ref a5, g21, g22, g23, g24, g25, g26, g27, g28, g29, g30, g31, g32, g33, g34])) :: bX11 a4 uq kq q_q [])) (wr := ([(a5, .inl (cB36, 26, .inl m_v))])) hP hD hK hS hA [0, 1, 2, 3, 4, 5, 6, 7, 8, 9, 10, 11, 12, 13, 14, 15] [16] rfl rfl (by decide) (by decide) (by decide) (fun hPc hDc => (va_runV (As := [.int 1, .int k1, .int k2, .int k3]) (rest := []) ⟨hx, hb, hml, hown, hts⟩ (kfX12_refusesQuestion l dC dI a0 (1 : Int32) k1 k2 k3 a4 uq kq (.int 0) (.int m_t.2.1) (.int m_t.2.2) (g10) (g11) (g12) (g13) (g14) (g15) (g16) (g17) (g18) (g19) (g20) (.ref a5) (g21) (g22) (g23) (g24) (g25) (g26) (g27) (g28) (g29) (g30) (g31) (g32) (g33) (g34) q_q H.size o21 eo21.symm) (cwV 4 hts gfX12_likeliest_0 rfl rfl rfl (by decide +kernel) ⟨(Nat.le_of_ble_eq_true rfl), (Nat.le_of_ble_eq_true rfl)⟩) (PV hPc (hK.sub (tys' := (tX11 kq ([]))) [0, 1, 2, 3, 4, 5, 6, 7, 8, 9, 10, 11, 12, 13] rfl) hDc hN 0 rfl rfl) rfl rfl hl.1 rfl (lv_room (Nat.le_of_ble_eq_true rfl)) (zat zrX12_likeliest_0_ok 13 rfl) ⟨(Nat.le_of_ble_eq_true rfl), (Nat.le_of_ble_eq_true rfl)⟩)) (fun r21 _ H locs hw hP hD _ hS => ?_)
  obtain rfl := hw.symm
  obtain ⟨hP, hD⟩ := pd_mk ((a5, .inl (cB36, 26, .inl m_v)) :: (a0, .inr (9, [.int 0, .int m_t.2.1, .int m_t.2.2, .ref a4, g10, g11, g12, g13, g14, g15, g16, g17, g18, g19, g20, .ref a5, g21, g22, g23, g24, g25, g26, g27, g28, g29, g30, g31, g32, g33, g34])) :: bX11 a4 uq kq q_q []) hP hD
  refine lv_istore (lv' := [(4, .int o21), (0, .ref a0), (1, .int k1), (2, .int k2), (3, .int k3)]) hx hb (zat zrX12_likeliest_0_ok 14 rfl) hl (by decide) rfl (fun ls hl => ?_)
  refine lv_iload hx hb (zat zrX12_likeliest_0_ok 15 rfl) (lv_at hl 0 rfl) ?_
  refine lv_if_le (tgt := 38) hx hb (zat zrX12_likeliest_0_ok 16 rfl) (by decide) (fun c28 => ?_) (fun c28 => ?_)
  · have h := (if_pos c28).symm.trans h
    refine lv_aload_n hx hb (zat zrX12_likeliest_0_ok 21 rfl) rfl (lv_at hl 1 rfl) ?_
    refine lv_iload_n hx hb (zat zrX12_likeliest_0_ok 22 rfl) rfl (lv_at hl 2 rfl) ?_
    refine lv_iload_n hx hb (zat zrX12_likeliest_0_ok 23 rfl) rfl (lv_at hl 3 rfl) ?_
    refine lv_iload_n hx hb (zat zrX12_likeliest_0_ok 24 rfl) rfl (lv_at hl 4 rfl) ?_
    obtain ⟨o42, eo42⟩ : ∃ o, o = f_X12_question k1 k2 k3 q_q := ⟨_, rfl⟩
    have h := nm_of h o42 eo42
    refine ck_i (wc := ((a0, .inr (9, [.int 0, .int m_t.2.1, .int m_t.2.2, .ref a4, g10, g11, g12, g13, g14, g15, g16, g17, g18, g19, g20, .ref a5, g21, g22, g23, g24, g25, g26, g27, g28, g29, g30, g31, g32, g33, g34])) :: bX11 a4 uq kq q_q [])) (wr := ([(a5, .inl (cB36, 26, .inl m_v))])) hP hD hK hS hA [1, 2, 3, 4, 5, 6, 7, 8, 9, 10, 11, 12, 13, 14, 15, 16] [0] rfl rfl (by decide) (by decide) (by decide) (fun hPc hDc => (va_runV (As := [.int k1, .int k2, .int k3]) (rest := []) ⟨hx, hb, hml, hown, hts⟩ (kfX12_question l dC dI a0 k1 k2 k3 a4 uq kq (.int 0) (.int m_t.2.1) (.int m_t.2.2) (g10) (g11) (g12) (g13) (g14) (g15) (g16) (g17) (g18) (g19) (g20) (.ref a5) (g21) (g22) (g23) (g24) (g25) (g26) (g27) (g28) (g29) (g30) (g31) (g32) (g33) (g34) q_q H.size o42 eo42.symm) (cwV 3 hts gfX12_likeliest_1 rfl rfl rfl (by decide +kernel) ⟨(Nat.le_of_ble_eq_true rfl), (Nat.le_of_ble_eq_true rfl)⟩) (PV hPc (hK.sub (tys' := (tX11 kq ([]))) [0, 1, 2, 3, 4, 5, 6, 7, 8, 9, 10, 11, 12, 13] rfl) hDc hN 0 rfl rfl) rfl rfl hl.1 rfl (lv_room (Nat.le_of_ble_eq_true rfl)) (zat zrX12_likeliest_0_ok 25 rfl) ⟨(Nat.le_of_ble_eq_true rfl), (Nat.le_of_ble_eq_true rfl)⟩)) (fun r42 _ H locs hw hP hD _ hS => ?_)
    obtain rfl := hw.symm
    obtain ⟨hP, hD⟩ := pd_mk ((a5, .inl (cB36, 26, .inl m_v)) :: (a0, .inr (9, [.int 0, .int m_t.2.1, .int m_t.2.2, .ref a4, g10, g11, g12, g13, g14, g15, g16, g17, g18, g19, g20, .ref a5, g21, g22, g23, g24, g25, g26, g27, g28, g29, g30, g31, g32, g33, g34])) :: bX11 a4 uq kq q_q []) hP hD
    refine lv_istore (lv' := [(5, .int o42), (4, .int o21), (0, .ref a0), (1, .int k1), (2, .int k2), (3, .int k3)]) hx hb (zat zrX12_likeliest_0_ok 26 rfl) hl (by decide) rfl (fun ls hl => ?_)
    refine lv_bipush (v := (-2)) hx hb (zat zrX12_likeliest_0_ok 27 rfl) (by decide) ?_
    refine lv_istore (lv' := [(6, .int (-2)), (5, .int o42), (4, .int o21), (0, .ref a0), (1, .int k1), (2, .int k2), (3, .int k3)]) hx hb (zat zrX12_likeliest_0_ok 28 rfl) hl (by decide) rfl (fun ls hl => ?_)
    refine lv_lconst (v := 0) hx hb (zat zrX12_likeliest_0_ok 29 rfl) (by decide) ?_
    refine lv_lstore (lv' := [(7, .long 0), (6, .int (-2)), (5, .int o42), (4, .int o21), (0, .ref a0), (1, .int k1), (2, .int k2), (3, .int k3)]) hx hb (zat zrX12_likeliest_0_ok 30 rfl) hl (by decide) rfl (fun ls hl => ?_)
    refine lv_iconst (v := 0) hx hb (zat zrX12_likeliest_0_ok 31 rfl) (by decide) ?_
    refine lv_istore (lv' := [(9, .int 0), (7, .long 0), (6, .int (-2)), (5, .int o42), (4, .int o21), (0, .ref a0), (1, .int k1), (2, .int k2), (3, .int k3)]) hx hb (zat zrX12_likeliest_0_ok 32 rfl) hl (by decide) rfl (fun ls hl => ?_)
    have L57 : ∀ (n57 : Nat) (v57_l9 : Int32) (v57_l7 : Int64) (v57_l6 : Int32) (H : Heap) (locs : List Loc) (ls : Array Slot), f_X12_likeliest_L57 m_t m_v q_q o42 n57 v57_l9 v57_l7 v57_l6 = some out → va_P (dC, dI) vwCl ((a5, .inl (cB36, 26, .inl m_v)) :: (a0, .inr (9, [.int 0, .int m_t.2.1, .int m_t.2.2, .ref a4, g10, g11, g12, g13, g14, g15, g16, g17, g18, g19, g20, .ref a5, g21, g22, g23, g24, g25, g26, g27, g28, g29, g30, g31, g32, g33, g34])) :: bX11 a4 uq kq q_q []) H → va_D A ((a5, .inl (cB36, 26, .inl m_v)) :: (a0, .inr (9, [.int 0, .int m_t.2.1, .int m_t.2.2, .ref a4, g10, g11, g12, g13, g14, g15, g16, g17, g18, g19, g20, .ref a5, g21, g22, g23, g24, g25, g26, g27, g28, g29, g30, g31, g32, g33, g34])) :: bX11 a4 uq kq q_q []) → va_S A s.heap H locs → lv_has ls 10 [(9, .int v57_l9), (7, .long v57_l7), (6, .int v57_l6), (5, .int o42), (0, .ref a0)] → W p l e (headSpec vfX12_likeliest { frames := 5, cells := 0, slots := 0, locals := 118 }).room s m ([.ref a0, .int k1, .int k2, .int k3]).toArray below meth c H locs 0 0 QQ (F0 m 57 ls []) := by
      intro n57
      induction n57 with
      | zero =>
        intro v57_l9 v57_l7 v57_l6 H locs ls h  _ _ _ _
        rw [f_X12_likeliest_L57] at h
        cases h
      | succ n57 ih57 =>
        intro v57_l9 v57_l7 v57_l6 H locs ls h  hP hD hS hl
        rw [f_X12_likeliest_L57] at h
        refine lv_iload hx hb (zat zrX12_likeliest_0_ok 33 rfl) (lv_at hl 0 rfl) ?_
        refine lv_aload_n hx hb (zat zrX12_likeliest_0_ok 34 rfl) rfl (lv_at hl 4 rfl) ?_
        refine va_get (D := (dC, dI)) (ci := 9) (v := .ref a4) (C := RX12) (T := TX12) (N := 30) hx hb hts ifX12_likeliest_X12 hown hK hP 1 rfl rfl 3 (by decide) (hts (.fieldLink RX12 299 "HookPierModel" "pier" "LHookPierModel$Pier;") (List.mem_of_getElem? (i := 2) rfl)) (fun _ h9 => h9) rfl (zat zrX12_likeliest_0_ok 35 rfl) ?_
        refine va_getN (D := (dC, dI)) (ci := 8) (v := .int q_q.2.2.2.2.2.2.1) (C := RX11) (T := TX11) (N := 24) hx hb hts ifX12_likeliest_X11 hown hK hP 2 rfl rfl 6 (by decide) (va_Nw.use rfl (hN.1 (.fieldLinkNest RX12 231 "HookPierModel$Pier" "answers" "I" "HookPierModel") (List.mem_of_getElem? (i := 28) rfl))) (fun _ h9 => h9) rfl (zat zrX12_likeliest_0_ok 36 rfl) ?_
        refine lv_icmp_ge (tgt := 106) hx hb (zat zrX12_likeliest_0_ok 37 rfl) (by decide) (fun c66 => ?_) (fun c66 => ?_)
        · have h := (if_pos c66).symm.trans h
          refine lv_aload_n hx hb (zat zrX12_likeliest_0_ok 55 rfl) rfl (lv_at hl 4 rfl) ?_
          refine lv_iload hx hb (zat zrX12_likeliest_0_ok 56 rfl) (lv_at hl 2 rfl) ?_
          obtain ⟨o109, eo109⟩ : ∃ o, o = f_X12_good v57_l6 ((0 : Int32), m_t.2) := ⟨_, rfl⟩
          have h := nm_of h o109 eo109
          refine ck_i (wc := ([(a0, .inr (9, [.int 0, .int m_t.2.1, .int m_t.2.2, .ref a4, g10, g11, g12, g13, g14, g15, g16, g17, g18, g19, g20, .ref a5, g21, g22, g23, g24, g25, g26, g27, g28, g29, g30, g31, g32, g33, g34]))])) (wr := ((a5, .inl (cB36, 26, .inl m_v)) :: bX11 a4 uq kq q_q [])) hP hD hK hS hA [1] [0, 2, 3, 4, 5, 6, 7, 8, 9, 10, 11, 12, 13, 14, 15, 16] rfl rfl (by decide) (by decide) (by decide) (fun hPc hDc => (va_runV (As := [.int v57_l6]) (rest := []) ⟨hx, hb, hml, hown, hts⟩ (kfX12_good l dC dI a0 v57_l6 ((0 : Int32), m_t.2) (.ref a4) (g10) (g11) (g12) (g13) (g14) (g15) (g16) (g17) (g18) (g19) (g20) (.ref a5) (g21) (g22) (g23) (g24) (g25) (g26) (g27) (g28) (g29) (g30) (g31) (g32) (g33) (g34) H.size o109 eo109.symm) (cwV 1 hts gfX12_likeliest_2 rfl rfl rfl (by decide +kernel) ⟨(Nat.le_of_ble_eq_true rfl), (Nat.le_of_ble_eq_true rfl)⟩) (PV hPc (hK.sub (tys' := ([])) [] rfl) hDc hN 0 rfl rfl) rfl rfl hl.1 rfl (lv_room (Nat.le_of_ble_eq_true rfl)) (zat zrX12_likeliest_0_ok 57 rfl) ⟨(Nat.le_of_ble_eq_true rfl), (Nat.le_of_ble_eq_true rfl)⟩)) (fun r109 _ H locs hw hP hD _ hS => ?_)
          obtain rfl := hw
          obtain ⟨hP, hD⟩ := pd_mk ((a5, .inl (cB36, 26, .inl m_v)) :: bX11 a4 uq kq q_q ([(a0, .inr (9, [.int o109.2.1, .int o109.2.2.1, .int o109.2.2.2, .ref a4, g10, g11, g12, g13, g14, g15, g16, g17, g18, g19, g20, .ref a5, g21, g22, g23, g24, g25, g26, g27, g28, g29, g30, g31, g32, g33, g34]))])) hP hD
          obtain rfl := Option.some.inj h
          obtain ⟨hP9, hD9⟩ := pd_sub ((a0, .inr (9, [.int o109.2.1, .int o109.2.2.1, .int o109.2.2.2, .ref a4, g10, g11, g12, g13, g14, g15, g16, g17, g18, g19, g20, .ref a5, g21, g22, g23, g24, g25, g26, g27, g28, g29, g30, g31, g32, g33, g34])) :: bX11 a4 uq kq q_q ([(a5, .inl (cB36, 26, .inl m_v))])) [16, 1, 2, 3, 4, 5, 6, 7, 8, 9, 10, 11, 12, 13, 14, 15, 0] hP hD (by decide) rfl
          have hK9 := hK.sub (tys' := []) [] rfl
          rw [hQQ]
          exact W.iret (v := o109.1) hx hb hr (fun t ht hW => ⟨⟨o109.1, (), rfl, rfl, by rw [ht]; exact hP9, va_K.moved hW.alike hK9, hD9⟩, hS.F ht⟩) hS.2.2 (zat zrX12_likeliest_0_ok 58 rfl)
        · have h := (if_neg c66).symm.trans h
          refine lv_aload_n hx hb (zat zrX12_likeliest_0_ok 38 rfl) rfl (lv_at hl 4 rfl) ?_
          refine lv_iload hx hb (zat zrX12_likeliest_0_ok 39 rfl) (lv_at hl 0 rfl) ?_
          refine lv_iload hx hb (zat zrX12_likeliest_0_ok 40 rfl) (lv_at hl 3 rfl) ?_
          obtain ⟨o74, eo74, h⟩ := bd_of h
          refine ck_l (wc := ((a0, .inr (9, [.int 0, .int m_t.2.1, .int m_t.2.2, .ref a4, g10, g11, g12, g13, g14, g15, g16, g17, g18, g19, g20, .ref a5, g21, g22, g23, g24, g25, g26, g27, g28, g29, g30, g31, g32, g33, g34])) :: bX11 a4 uq kq q_q ([(a5, .inl (cB36, 26, .inl m_v))]))) (wr := []) hP hD hK hS hA [1, 2, 3, 4, 5, 6, 7, 8, 9, 10, 11, 12, 13, 14, 15, 16, 0] [] rfl rfl (by decide) (by decide) (by decide) (fun hPc hDc => (va_runV (As := [.int v57_l9, .int o42]) (rest := []) ⟨hx, hb, hml, hown, hts⟩ (kfX12_oddsOf l dC dI a0 v57_l9 o42 a4 a5 uq kq m_v (.int 0) (.int m_t.2.1) (.int m_t.2.2) (g10) (g11) (g12) (g13) (g14) (g15) (g16) (g17) (g18) (g19) (g20) (g21) (g22) (g23) (g24) (g25) (g26) (g27) (g28) (g29) (g30) (g31) (g32) (g33) (g34) q_q cB36 H.size o74 eo74) (cwV 2 hts gfX12_likeliest_3 rfl rfl rfl (by decide +kernel) ⟨(Nat.le_of_ble_eq_true rfl), (Nat.le_of_ble_eq_true rfl)⟩) (PV hPc (hK.sub (tys' := (tX11 kq ((cB36, .int) :: []))) [0, 1, 2, 3, 4, 5, 6, 7, 8, 9, 10, 11, 12, 13, 14] rfl) hDc hN 0 rfl rfl) rfl rfl hl.1 rfl (lv_room (Nat.le_of_ble_eq_true rfl)) (zat zrX12_likeliest_0_ok 41 rfl) ⟨(Nat.le_of_ble_eq_true rfl), (Nat.le_of_ble_eq_true rfl)⟩)) (fun r74 _ H locs hw hP hD _ hS => ?_)
          obtain rfl := hw.symm
          obtain ⟨hP, hD⟩ := pd_mk ((a0, .inr (9, [.int 0, .int m_t.2.1, .int m_t.2.2, .ref a4, g10, g11, g12, g13, g14, g15, g16, g17, g18, g19, g20, .ref a5, g21, g22, g23, g24, g25, g26, g27, g28, g29, g30, g31, g32, g33, g34])) :: bX11 a4 uq kq q_q ([(a5, .inl (cB36, 26, .inl m_v))])) hP hD
          refine lv_lload hx hb (zat zrX12_likeliest_0_ok 42 rfl) (lv_at hl 1 rfl) ?_
          refine W.lcmp hx hb (zat zrX12_likeliest_0_ok 43 rfl) ?_
          have J100 : ∀ (v100_l6 : Int32) (v100_l7 : Int64) (H : Heap) (locs : List Loc) (ls : Array Slot), f_X12_likeliest_J100 (f_X12_likeliest_L57 m_t m_v q_q o42 n57) v57_l9 v100_l6 v100_l7 = some out → va_P (dC, dI) vwCl ((a0, .inr (9, [.int 0, .int m_t.2.1, .int m_t.2.2, .ref a4, g10, g11, g12, g13, g14, g15, g16, g17, g18, g19, g20, .ref a5, g21, g22, g23, g24, g25, g26, g27, g28, g29, g30, g31, g32, g33, g34])) :: bX11 a4 uq kq q_q ([(a5, .inl (cB36, 26, .inl m_v))])) H → va_D A ((a0, .inr (9, [.int 0, .int m_t.2.1, .int m_t.2.2, .ref a4, g10, g11, g12, g13, g14, g15, g16, g17, g18, g19, g20, .ref a5, g21, g22, g23, g24, g25, g26, g27, g28, g29, g30, g31, g32, g33, g34])) :: bX11 a4 uq kq q_q ([(a5, .inl (cB36, 26, .inl m_v))])) → va_S A s.heap H locs → lv_has ls 10 [(6, .int v100_l6), (7, .long v100_l7), (9, .int v57_l9), (5, .int o42), (0, .ref a0)] → W p l e (headSpec vfX12_likeliest { frames := 5, cells := 0, slots := 0, locals := 118 }).room s m ([.ref a0, .int k1, .int k2, .int k3]).toArray below meth c H locs 0 0 QQ (F0 m 100 ls []) := by
            intro v100_l6 v100_l7 H locs ls h  hP hD hS hl
            rw [f_X12_likeliest_J100] at h
            refine lv_iinc (v := (v57_l9 + (1 : Int32))) (lv' := [(9, .int (v57_l9 + (1 : Int32))), (6, .int v100_l6), (7, .long v100_l7), (5, .int o42), (0, .ref a0)]) hx hb (zat zrX12_likeliest_0_ok 53 rfl) hl (k := 2) rfl rfl (by decide) rfl (fun ls hl => ?_)
            refine lv_goto (tgt := 57) hx hb (zat zrX12_likeliest_0_ok 54 rfl) (by decide) ?_
            exact ih57 (v57_l9 + (1 : Int32)) v100_l7 v100_l6 H _ ls h  (hP.sub (ws' := ((a5, .inl (cB36, 26, .inl m_v)) :: (a0, .inr (9, [.int 0, .int m_t.2.1, .int m_t.2.2, .ref a4, g10, g11, g12, g13, g14, g15, g16, g17, g18, g19, g20, .ref a5, g21, g22, g23, g24, g25, g26, g27, g28, g29, g30, g31, g32, g33, g34])) :: bX11 a4 uq kq q_q [])) [16, 0, 1, 2, 3, 4, 5, 6, 7, 8, 9, 10, 11, 12, 13, 14, 15] rfl) (hD.sub (ws' := ((a5, .inl (cB36, 26, .inl m_v)) :: (a0, .inr (9, [.int 0, .int m_t.2.1, .int m_t.2.2, .ref a4, g10, g11, g12, g13, g14, g15, g16, g17, g18, g19, g20, .ref a5, g21, g22, g23, g24, g25, g26, g27, g28, g29, g30, g31, g32, g33, g34])) :: bX11 a4 uq kq q_q [])) [16, 0, 1, 2, 3, 4, 5, 6, 7, 8, 9, 10, 11, 12, 13, 14, 15] (by decide) rfl) hS (lv_sub hl [0, 2, 1, 3, 4] rfl)
          refine lv_if_gt (tgt := 86) hx hb (zat zrX12_likeliest_0_ok 44 rfl) (by decide) (fun c80 => ?_) (fun c80 => ?_)
          · have h := (if_pos c80).symm.trans h
            refine lv_aload_n hx hb (zat zrX12_likeliest_0_ok 46 rfl) rfl (lv_at hl 4 rfl) ?_
            refine lv_iload hx hb (zat zrX12_likeliest_0_ok 47 rfl) (lv_at hl 0 rfl) ?_
            refine lv_iload hx hb (zat zrX12_likeliest_0_ok 48 rfl) (lv_at hl 3 rfl) ?_
            obtain ⟨o91, eo91, h⟩ := bd_of h
            refine ck_l (wc := ((a0, .inr (9, [.int 0, .int m_t.2.1, .int m_t.2.2, .ref a4, g10, g11, g12, g13, g14, g15, g16, g17, g18, g19, g20, .ref a5, g21, g22, g23, g24, g25, g26, g27, g28, g29, g30, g31, g32, g33, g34])) :: bX11 a4 uq kq q_q ([(a5, .inl (cB36, 26, .inl m_v))]))) (wr := []) hP hD hK hS hA [0, 1, 2, 3, 4, 5, 6, 7, 8, 9, 10, 11, 12, 13, 14, 15, 16] [] rfl rfl (by decide) (by decide) (by decide) (fun hPc hDc => (va_runV (As := [.int v57_l9, .int o42]) (rest := []) ⟨hx, hb, hml, hown, hts⟩ (kfX12_oddsOf l dC dI a0 v57_l9 o42 a4 a5 uq kq m_v (.int 0) (.int m_t.2.1) (.int m_t.2.2) (g10) (g11) (g12) (g13) (g14) (g15) (g16) (g17) (g18) (g19) (g20) (g21) (g22) (g23) (g24) (g25) (g26) (g27) (g28) (g29) (g30) (g31) (g32) (g33) (g34) q_q cB36 H.size o91 eo91) (cwV 2 hts gfX12_likeliest_3 rfl rfl rfl (by decide +kernel) ⟨(Nat.le_of_ble_eq_true rfl), (Nat.le_of_ble_eq_true rfl)⟩) (PV hPc (hK.sub (tys' := (tX11 kq ((cB36, .int) :: []))) [0, 1, 2, 3, 4, 5, 6, 7, 8, 9, 10, 11, 12, 13, 14] rfl) hDc hN 0 rfl rfl) rfl rfl hl.1 rfl (lv_room (Nat.le_of_ble_eq_true rfl)) (zat zrX12_likeliest_0_ok 49 rfl) ⟨(Nat.le_of_ble_eq_true rfl), (Nat.le_of_ble_eq_true rfl)⟩)) (fun r91 _ H locs hw hP hD _ hS => ?_)
            obtain rfl := hw.symm
            obtain ⟨hP, hD⟩ := pd_mk ((a0, .inr (9, [.int 0, .int m_t.2.1, .int m_t.2.2, .ref a4, g10, g11, g12, g13, g14, g15, g16, g17, g18, g19, g20, .ref a5, g21, g22, g23, g24, g25, g26, g27, g28, g29, g30, g31, g32, g33, g34])) :: bX11 a4 uq kq q_q ([(a5, .inl (cB36, 26, .inl m_v))])) hP hD
            refine lv_lstore (lv' := [(7, .long o91), (9, .int v57_l9), (6, .int v57_l6), (5, .int o42), (0, .ref a0)]) hx hb (zat zrX12_likeliest_0_ok 50 rfl) hl (by decide) rfl (fun ls hl => ?_)
            refine lv_iload hx hb (zat zrX12_likeliest_0_ok 51 rfl) (lv_at hl 1 rfl) ?_
            refine lv_istore (lv' := [(6, .int v57_l9), (7, .long o91), (9, .int v57_l9), (5, .int o42), (0, .ref a0)]) hx hb (zat zrX12_likeliest_0_ok 52 rfl) hl (by decide) rfl (fun ls hl => ?_)
            exact J100 v57_l9 o91 H _ ls h  hP hD hS (lv_sub hl [0, 1, 2, 3, 4] rfl)
          · have h := (if_neg c80).symm.trans h
            refine lv_goto (tgt := 100) hx hb (zat zrX12_likeliest_0_ok 45 rfl) (by decide) ?_
            exact J100 v57_l6 v57_l7 H _ ls h  hP hD hS (lv_sub hl [2, 1, 0, 3, 4] rfl)
    exact L57 FU (0 : Int32) (0 : Int64) (-2 : Int32) H _ ls h  hP hD hS (lv_sub hl [0, 1, 2, 3, 5] rfl)
  · have h := (if_neg c28).symm.trans h
    refine lv_aload_n hx hb (zat zrX12_likeliest_0_ok 17 rfl) rfl (lv_at hl 1 rfl) ?_
    refine lv_iload hx hb (zat zrX12_likeliest_0_ok 18 rfl) (lv_at hl 0 rfl) ?_
    obtain ⟨o34, eo34⟩ : ∃ o, o = f_X12_refused o21 ((0 : Int32), m_t.2) := ⟨_, rfl⟩
    have h := nm_of h o34 eo34
    refine ck_i (wc := ([(a0, .inr (9, [.int 0, .int m_t.2.1, .int m_t.2.2, .ref a4, g10, g11, g12, g13, g14, g15, g16, g17, g18, g19, g20, .ref a5, g21, g22, g23, g24, g25, g26, g27, g28, g29, g30, g31, g32, g33, g34]))])) (wr := ((a5, .inl (cB36, 26, .inl m_v)) :: bX11 a4 uq kq q_q [])) hP hD hK hS hA [1] [0, 2, 3, 4, 5, 6, 7, 8, 9, 10, 11, 12, 13, 14, 15, 16] rfl rfl (by decide) (by decide) (by decide) (fun hPc hDc => (va_runV (As := [.int o21]) (rest := []) ⟨hx, hb, hml, hown, hts⟩ (kfX12_refused l dC dI a0 o21 ((0 : Int32), m_t.2) (.ref a4) (g10) (g11) (g12) (g13) (g14) (g15) (g16) (g17) (g18) (g19) (g20) (.ref a5) (g21) (g22) (g23) (g24) (g25) (g26) (g27) (g28) (g29) (g30) (g31) (g32) (g33) (g34) H.size o34 eo34.symm) (cwV 1 hts gfX12_likeliest_4 rfl rfl rfl (by decide +kernel) ⟨(Nat.le_of_ble_eq_true rfl), (Nat.le_of_ble_eq_true rfl)⟩) (PV hPc (hK.sub (tys' := ([])) [] rfl) hDc hN 0 rfl rfl) rfl rfl hl.1 rfl (lv_room (Nat.le_of_ble_eq_true rfl)) (zat zrX12_likeliest_0_ok 19 rfl) ⟨(Nat.le_of_ble_eq_true rfl), (Nat.le_of_ble_eq_true rfl)⟩)) (fun r34 _ H locs hw hP hD _ hS => ?_)
    obtain rfl := hw
    obtain ⟨hP, hD⟩ := pd_mk ((a5, .inl (cB36, 26, .inl m_v)) :: bX11 a4 uq kq q_q ([(a0, .inr (9, [.int o34.1, .int o34.2.1, .int o34.2.2, .ref a4, g10, g11, g12, g13, g14, g15, g16, g17, g18, g19, g20, .ref a5, g21, g22, g23, g24, g25, g26, g27, g28, g29, g30, g31, g32, g33, g34]))])) hP hD
    obtain rfl := Option.some.inj h
    obtain ⟨hP9, hD9⟩ := pd_sub ((a0, .inr (9, [.int o34.1, .int o34.2.1, .int o34.2.2, .ref a4, g10, g11, g12, g13, g14, g15, g16, g17, g18, g19, g20, .ref a5, g21, g22, g23, g24, g25, g26, g27, g28, g29, g30, g31, g32, g33, g34])) :: bX11 a4 uq kq q_q ([(a5, .inl (cB36, 26, .inl m_v))])) [16, 1, 2, 3, 4, 5, 6, 7, 8, 9, 10, 11, 12, 13, 14, 15, 0] hP hD (by decide) rfl
    have hK9 := hK.sub (tys' := []) [] rfl
    rw [hQQ]
    exact W.iret (v := (-1 : Int32)) hx hb hr (fun t ht hW => ⟨⟨(-1 : Int32), (), rfl, rfl, by rw [ht]; exact hP9, va_K.moved hW.alike hK9, hD9⟩, hS.F ht⟩) hS.2.2 (zat zrX12_likeliest_0_ok 20 rfl)
