theorem dX12_oddsOf_0 : decode cX12_oddsOf 0 = .ok (.aload_n 0, 1) := by decide +kernel
theorem dX12_oddsOf_1 : decode cX12_oddsOf 1 = .ok (.getfield 17, 3) := by decide +kernel
theorem dX12_oddsOf_11 : decode cX12_oddsOf 11 = .ok (.lconst 0, 1) := by decide +kernel
theorem dX12_oddsOf_12 : decode cX12_oddsOf 12 = .ok (.lreturn, 1) := by decide +kernel
theorem dX12_oddsOf_13 : decode cX12_oddsOf 13 = .ok (.lconst 1, 1) := by decide +kernel
theorem dX12_oddsOf_14 : decode cX12_oddsOf 14 = .ok (.lstore_n 3, 1) := by decide +kernel
theorem dX12_oddsOf_15 : decode cX12_oddsOf 15 = .ok (.iconst 0, 1) := by decide +kernel
theorem dX12_oddsOf_16 : decode cX12_oddsOf 16 = .ok (.istore 5, 2) := by decide +kernel
theorem dX12_oddsOf_18 : decode cX12_oddsOf 18 = .ok (.iload 5, 2) := by decide +kernel
theorem dX12_oddsOf_20 : decode cX12_oddsOf 20 = .ok (.aload_n 0, 1) := by decide +kernel
theorem dX12_oddsOf_21 : decode cX12_oddsOf 21 = .ok (.getfield 299, 3) := by decide +kernel
theorem dX12_oddsOf_24 : decode cX12_oddsOf 24 = .ok (.getfield 231, 3) := by decide +kernel
theorem dX12_oddsOf_27 : decode cX12_oddsOf 27 = .ok (.if_icmp .ge 68, 3) := by decide +kernel
theorem dX12_oddsOf_30 : decode cX12_oddsOf 30 = .ok (.aload_n 0, 1) := by decide +kernel
theorem dX12_oddsOf_31 : decode cX12_oddsOf 31 = .ok (.getfield 17, 3) := by decide +kernel
theorem dX12_oddsOf_34 : decode cX12_oddsOf 34 = .ok (.iconst 0, 1) := by decide +kernel
theorem dX12_oddsOf_35 : decode cX12_oddsOf 35 = .ok (.iload 5, 2) := by decide +kernel
theorem dX12_oddsOf_37 : decode cX12_oddsOf 37 = .ok (.iadd, 1) := by decide +kernel
theorem dX12_oddsOf_38 : decode cX12_oddsOf 38 = .ok (.iaload, 1) := by decide +kernel
theorem dX12_oddsOf_39 : decode cX12_oddsOf 39 = .ok (.ifCond .eq 6, 3) := by decide +kernel
theorem dX12_oddsOf_4 : decode cX12_oddsOf 4 = .ok (.iconst 0, 1) := by decide +kernel
theorem dX12_oddsOf_42 : decode cX12_oddsOf 42 = .ok (.goto 47, 3) := by decide +kernel
theorem dX12_oddsOf_45 : decode cX12_oddsOf 45 = .ok (.lload_n 3, 1) := by decide +kernel
theorem dX12_oddsOf_46 : decode cX12_oddsOf 46 = .ok (.iload 5, 2) := by decide +kernel
theorem dX12_oddsOf_48 : decode cX12_oddsOf 48 = .ok (.iload_n 1, 1) := by decide +kernel
theorem dX12_oddsOf_49 : decode cX12_oddsOf 49 = .ok (.if_icmp .ge 18, 3) := by decide +kernel
theorem dX12_oddsOf_5 : decode cX12_oddsOf 5 = .ok (.iload_n 1, 1) := by decide +kernel
theorem dX12_oddsOf_52 : decode cX12_oddsOf 52 = .ok (.ldc2_w 344, 3) := by decide +kernel
theorem dX12_oddsOf_55 : decode cX12_oddsOf 55 = .ok (.aload_n 0, 1) := by decide +kernel
theorem dX12_oddsOf_56 : decode cX12_oddsOf 56 = .ok (.iload 5, 2) := by decide +kernel
theorem dX12_oddsOf_58 : decode cX12_oddsOf 58 = .ok (.iload_n 2, 1) := by decide +kernel
theorem dX12_oddsOf_59 : decode cX12_oddsOf 59 = .ok (.invokevirtual 346, 3) := by decide +kernel
theorem dX12_oddsOf_6 : decode cX12_oddsOf 6 = .ok (.iadd, 1) := by decide +kernel
theorem dX12_oddsOf_62 : decode cX12_oddsOf 62 = .ok (.i2l, 1) := by decide +kernel
theorem dX12_oddsOf_63 : decode cX12_oddsOf 63 = .ok (.lsub, 1) := by decide +kernel
theorem dX12_oddsOf_64 : decode cX12_oddsOf 64 = .ok (.goto 23, 3) := by decide +kernel
theorem dX12_oddsOf_67 : decode cX12_oddsOf 67 = .ok (.iload 5, 2) := by decide +kernel
theorem dX12_oddsOf_69 : decode cX12_oddsOf 69 = .ok (.iload_n 1, 1) := by decide +kernel
theorem dX12_oddsOf_7 : decode cX12_oddsOf 7 = .ok (.iaload, 1) := by decide +kernel
theorem dX12_oddsOf_70 : decode cX12_oddsOf 70 = .ok (.if_icmp .ne 14, 3) := by decide +kernel
theorem dX12_oddsOf_73 : decode cX12_oddsOf 73 = .ok (.aload_n 0, 1) := by decide +kernel
theorem dX12_oddsOf_74 : decode cX12_oddsOf 74 = .ok (.iload 5, 2) := by decide +kernel
theorem dX12_oddsOf_76 : decode cX12_oddsOf 76 = .ok (.iload_n 2, 1) := by decide +kernel
theorem dX12_oddsOf_77 : decode cX12_oddsOf 77 = .ok (.invokevirtual 346, 3) := by decide +kernel
theorem dX12_oddsOf_8 : decode cX12_oddsOf 8 = .ok (.ifCond .eq 5, 3) := by decide +kernel
theorem dX12_oddsOf_80 : decode cX12_oddsOf 80 = .ok (.i2l, 1) := by decide +kernel
theorem dX12_oddsOf_81 : decode cX12_oddsOf 81 = .ok (.goto 6, 3) := by decide +kernel
theorem dX12_oddsOf_84 : decode cX12_oddsOf 84 = .ok (.ldc2_w 344, 3) := by decide +kernel
theorem dX12_oddsOf_87 : decode cX12_oddsOf 87 = .ok (.lmul, 1) := by decide +kernel
theorem dX12_oddsOf_88 : decode cX12_oddsOf 88 = .ok (.lstore_n 3, 1) := by decide +kernel
theorem dX12_oddsOf_89 : decode cX12_oddsOf 89 = .ok (.iinc 5 1, 3) := by decide +kernel
theorem dX12_oddsOf_92 : decode cX12_oddsOf 92 = .ok (.goto (-74), 3) := by decide +kernel
theorem dX12_oddsOf_95 : decode cX12_oddsOf 95 = .ok (.lload_n 3, 1) := by decide +kernel
theorem dX12_oddsOf_96 : decode cX12_oddsOf 96 = .ok (.lreturn, 1) := by decide +kernel
def vfX12_oddsOf : List Cond := List.cons (.code yX12_oddsOf cX12_oddsOf 6 (some .long)) (apW [.fieldLink RX12 17 "HookPierModel" "v" "[I", .fieldLink RX12 299 "HookPierModel" "pier" "LHookPierModel$Pier;", .constantLong RX12 344 (100), .methodLink RX12 346 yX12_wishOf, .instanceMethod yX12_wishOf, .selects RX12 yX12_wishOf yX12_wishOf, .initialized RX12] (apW wsX120 (apW wsX110 (vfX12_wishOf))))
theorem ifX12_oddsOf_X12 : ∀ w ∈ wsX120, w ∈ vfX12_oddsOf := fun _ h => (List.mem_cons_of_mem _ (List.mem_append_right _ (List.mem_append_left _ h)))
theorem ifX12_oddsOf_X11 : ∀ w ∈ wsX110, w ∈ vfX12_oddsOf := fun _ h => (List.mem_cons_of_mem _ (List.mem_append_right _ (List.mem_append_right _ (List.mem_append_left _ h))))
theorem qfX12_oddsOf : Good vfX12_oddsOf := gd_cons (by decide +kernel) (gd_app (gd_dec (by decide +kernel) : Good [.fieldLink RX12 17 "HookPierModel" "v" "[I", .fieldLink RX12 299 "HookPierModel" "pier" "LHookPierModel$Pier;", .constantLong RX12 344 (100), .methodLink RX12 346 yX12_wishOf, .instanceMethod yX12_wishOf, .selects RX12 yX12_wishOf yX12_wishOf, .initialized RX12]) (gd_app qsX12 (gd_app qsX11 qfX12_wishOf)))
theorem gfX12_oddsOf_0 : GoodIn vfX12_oddsOf (wsV RX12 346 RX12 yX12_wishOf vfX12_wishOf) := goodIn_app (goodIn_r [.methodLink RX12 346 yX12_wishOf, .instanceMethod yX12_wishOf, .selects RX12 yX12_wishOf yX12_wishOf, .initialized RX12] [4, 5, 6, 7] rfl (by decide +kernel)) (goodIn_m (fun _ h => (List.mem_cons_of_mem _ (List.mem_append_right _ (List.mem_append_right _ (List.mem_append_right _ h))))) qfX12_wishOf)
set_option maxHeartbeats 2000000 in
set_option maxRecDepth 100000 in
theorem kfX12_oddsOf (l : Launch) (dC : Nat → ClassId) (dI : Nat → Nat → Nat) (a0 : Nat) (k1 : Int32) (k2 : Int32) (a3 : Nat) (a4 : Nat) (uq : Nat → Nat) (kq : Nat → ClassId) (m_v : TX12_v) (g8 : Value) (g9 : Value) (g10 : Value) (g11 : Value) (g12 : Value) (g13 : Value) (g14 : Value) (g15 : Value) (g16 : Value) (g17 : Value) (g18 : Value) (g19 : Value) (g20 : Value) (g21 : Value) (g22 : Value) (g23 : Value) (g24 : Value) (g25 : Value) (g26 : Value) (g27 : Value) (g28 : Value) (g29 : Value) (g30 : Value) (g31 : Value) (g32 : Value) (g33 : Value) (g34 : Value) (g35 : Value) (q_q : TX11_q) (cB37 : ClassId) (sz : Nat) (out : Int64) (h : f_X12_oddsOf k1 k2 m_v q_q = some out) : Met l yX12_oddsOf vfX12_oddsOf ({ frames := 4, cells := 0, slots := 0, locals := 93 }) (PC (dC, dI) [.ref a0, .int k1, .int k2] sz ((a0, .inr (9, [g8, g9, g10, .ref a3, g11, g12, g13, g14, g15, g16, g17, g18, g19, g20, g21, .ref a4, g22, g23, g24, g25, g26, g27, g28, g29, g30, g31, g32, g33, g34, g35])) :: bX11 a3 uq kq q_q ([(a4, .inl (cB37, 26, .inl m_v))])) (tX11 kq ((cB37, .int) :: []))) (va_Ql (S := Unit) (fun (r : Int64) _ => r = out) (fun _ t => BC (dC, dI) (va_A ((a0, .inr (9, [g8, g9, g10, .ref a3, g11, g12, g13, g14, g15, g16, g17, g18, g19, g20, g21, .ref a4, g22, g23, g24, g25, g26, g27, g28, g29, g30, g31, g32, g33, g34, g35])) :: bX11 a3 uq kq q_q ([(a4, .inl (cB37, 26, .inl m_v))])) sz) ((a0, .inr (9, [g8, g9, g10, .ref a3, g11, g12, g13, g14, g15, g16, g17, g18, g19, g20, g21, .ref a4, g22, g23, g24, g25, g26, g27, g28, g29, g30, g31, g32, g33, g34, g35])) :: bX11 a3 uq kq q_q ([(a4, .inl (cB37, 26, .inl m_v))])) [] t) (va_A ((a0, .inr (9, [g8, g9, g10, .ref a3, g11, g12, g13, g14, g15, g16, g17, g18, g19, g20, g21, .ref a4, g22, g23, g24, g25, g26, g27, g28, g29, g30, g31, g32, g33, g34, g35])) :: bX11 a3 uq kq q_q ([(a4, .inl (cB37, 26, .inl m_v))])) sz)) 0 0 (va_A ((a0, .inr (9, [g8, g9, g10, .ref a3, g11, g12, g13, g14, g15, g16, g17, g18, g19, g20, g21, .ref a4, g22, g23, g24, g25, g26, g27, g28, g29, g30, g31, g32, g33, g34, g35])) :: bX11 a3 uq kq q_q ([(a4, .inl (cB37, 26, .inl m_v))])) sz) := by
  refine Met.ofW (cc := cX12_oddsOf) (maxL := 6) (ret := (some .long)) (by decide) rfl ?_
  intro p e s m args below meth c s₁ B0 hml hv
  obtain ⟨rfl, hsz, hP, hK, hD0, hN⟩ := hv
  have hx := B0.exec
  have hb := B0.bytes
  have hr := B0.returns
  have hts := atoms_spec (ws := vfX12_oddsOf) B0.pre
  have hown : s.vm.findClass RX12 = some m.cls := findClass_of_methodNamed B0.named
  have hlocks := B0.notSynchronized
  subst hsz
  have hD := hD0.self (sz := s.heap.size)
  generalize hAe : va_A ((a0, .inr (9, [g8, g9, g10, .ref a3, g11, g12, g13, g14, g15, g16, g17, g18, g19, g20, g21, .ref a4, g22, g23, g24, g25, g26, g27, g28, g29, g30, g31, g32, g33, g34, g35])) :: bX11 a3 uq kq q_q ([(a4, .inl (cB37, 26, .inl m_v))])) s.heap.size = A at hD ⊢
  have hA : ∀ q : Nat, s.heap.size ≤ q → A q := fun q h => by rw [← hAe]; exact Or.inr h
  have hS : va_S A s.heap s.heap [] := va_S.rf
  have hP : va_P (dC, dI) vwCl ((a0, .inr (9, [g8, g9, g10, .ref a3, g11, g12, g13, g14, g15, g16, g17, g18, g19, g20, g21, .ref a4, g22, g23, g24, g25, g26, g27, g28, g29, g30, g31, g32, g33, g34, g35])) :: bX11 a3 uq kq q_q ([(a4, .inl (cB37, 26, .inl m_v))])) s.heap := hP
  have hl := lv_entry ([.ref a0, .int k1, .int k2]) (n := 6) (Nat.le_of_ble_eq_true rfl)
  rw [lg_entry_eq]
  generalize (lg_sl ([.ref a0, .int k1, .int k2]) ++ List.replicate (6 - (lg_sl ([.ref a0, .int k1, .int k2])).length) Slot.unset).toArray = ls at hl ⊢
  have hl : lv_has ls 6 [(0, .ref a0), (1, .int k1), (2, .int k2)] := hl
  refine W_q (fun QQ hQQ => ?_)
  rw [f_X12_oddsOf] at h
  refine lv_aload_n hx hb dX12_oddsOf_0 rfl (lv_at hl 0 rfl) ?_
  refine va_get (D := (dC, dI)) (ci := 9) (v := .ref a4) (C := RX12) (T := TX12) (N := 30) hx hb hts ifX12_oddsOf_X12 hown hK hP 0 rfl rfl 15 (by decide) (hts (.fieldLink RX12 17 "HookPierModel" "v" "[I") (List.mem_of_getElem? (i := 1) rfl)) (fun _ h9 => h9) rfl dX12_oddsOf_1 ?_
  refine lv_iconst (v := 0) hx hb dX12_oddsOf_4 (by decide) ?_
  refine lv_iload_n hx hb dX12_oddsOf_5 rfl (lv_at hl 1 rfl) ?_
  refine lv_iadd hx hb dX12_oddsOf_6 ?_
  obtain ⟨hg7, h⟩ := gA_of h
  refine va_iald hx hb hK hP 16 14 rfl rfl hg7 dX12_oddsOf_7 ?_
  refine lv_if_eq (tgt := 13) hx hb dX12_oddsOf_8 (by decide) (fun c8 => ?_) (fun c8 => ?_)
  · have h := (if_pos c8).symm.trans h
    refine lv_lconst (v := 1) hx hb dX12_oddsOf_13 (by decide) ?_
    refine lv_lstore_n (lv' := [(3, .long 1), (0, .ref a0), (1, .int k1), (2, .int k2)]) hx hb dX12_oddsOf_14 rfl hl (by decide) rfl (fun ls hl => ?_)
    refine lv_iconst (v := 0) hx hb dX12_oddsOf_15 (by decide) ?_
    refine lv_istore (lv' := [(5, .int 0), (3, .long 1), (0, .ref a0), (1, .int k1), (2, .int k2)]) hx hb dX12_oddsOf_16 hl (by decide) rfl (fun ls hl => ?_)
    have L18 : ∀ (n18 : Nat) (v18_l5 : Int32) (v18_l3 : Int64) (H : Heap) (locs : List Loc) (ls : Array Slot), f_X12_oddsOf_L18 k1 k2 m_v q_q n18 v18_l5 v18_l3 = some out → va_P (dC, dI) vwCl ((a0, .inr (9, [g8, g9, g10, .ref a3, g11, g12, g13, g14, g15, g16, g17, g18, g19, g20, g21, .ref a4, g22, g23, g24, g25, g26, g27, g28, g29, g30, g31, g32, g33, g34, g35])) :: bX11 a3 uq kq q_q ([(a4, .inl (cB37, 26, .inl m_v))])) H → va_D A ((a0, .inr (9, [g8, g9, g10, .ref a3, g11, g12, g13, g14, g15, g16, g17, g18, g19, g20, g21, .ref a4, g22, g23, g24, g25, g26, g27, g28, g29, g30, g31, g32, g33, g34, g35])) :: bX11 a3 uq kq q_q ([(a4, .inl (cB37, 26, .inl m_v))])) → va_S A s.heap H locs → lv_has ls 6 [(5, .int v18_l5), (3, .long v18_l3), (0, .ref a0), (1, .int k1), (2, .int k2)] → W p l e (headSpec vfX12_oddsOf { frames := 4, cells := 0, slots := 0, locals := 93 }).room s m ([.ref a0, .int k1, .int k2]).toArray below meth c H locs 0 0 QQ (F0 m 18 ls []) := by
      intro n18
      induction n18 with
      | zero =>
        intro v18_l5 v18_l3 H locs ls h  _ _ _ _
        rw [f_X12_oddsOf_L18] at h
        cases h
      | succ n18 ih18 =>
        intro v18_l5 v18_l3 H locs ls h  hP hD hS hl
        rw [f_X12_oddsOf_L18] at h
        refine lv_iload hx hb dX12_oddsOf_18 (lv_at hl 0 rfl) ?_
        refine lv_aload_n hx hb dX12_oddsOf_20 rfl (lv_at hl 2 rfl) ?_
        refine va_get (D := (dC, dI)) (ci := 9) (v := .ref a3) (C := RX12) (T := TX12) (N := 30) hx hb hts ifX12_oddsOf_X12 hown hK hP 0 rfl rfl 3 (by decide) (hts (.fieldLink RX12 299 "HookPierModel" "pier" "LHookPierModel$Pier;") (List.mem_of_getElem? (i := 2) rfl)) (fun _ h9 => h9) rfl dX12_oddsOf_21 ?_
        refine va_getN (D := (dC, dI)) (ci := 8) (v := .int q_q.2.2.2.2.2.2.1) (C := RX11) (T := TX11) (N := 24) hx hb hts ifX12_oddsOf_X11 hown hK hP 1 rfl rfl 6 (by decide) (va_Nw.use rfl (hN.1 (.fieldLinkNest RX12 231 "HookPierModel$Pier" "answers" "I" "HookPierModel") (List.mem_of_getElem? (i := 28) rfl))) (fun _ h9 => h9) rfl dX12_oddsOf_24 ?_
        refine lv_icmp_ge (tgt := 95) hx hb dX12_oddsOf_27 (by decide) (fun c27 => ?_) (fun c27 => ?_)
        · have h := (if_pos c27).symm.trans h
          refine lv_lload_n hx hb dX12_oddsOf_95 rfl (lv_at hl 1 rfl) ?_
          obtain rfl := Option.some.inj h
          have hP9 := hP.sub (ws' := ((a0, .inr (9, [g8, g9, g10, .ref a3, g11, g12, g13, g14, g15, g16, g17, g18, g19, g20, g21, .ref a4, g22, g23, g24, g25, g26, g27, g28, g29, g30, g31, g32, g33, g34, g35])) :: bX11 a3 uq kq q_q ([(a4, .inl (cB37, 26, .inl m_v))]))) [0, 1, 2, 3, 4, 5, 6, 7, 8, 9, 10, 11, 12, 13, 14, 15, 16] rfl
          have hD9 := hD.sub (ws' := ((a0, .inr (9, [g8, g9, g10, .ref a3, g11, g12, g13, g14, g15, g16, g17, g18, g19, g20, g21, .ref a4, g22, g23, g24, g25, g26, g27, g28, g29, g30, g31, g32, g33, g34, g35])) :: bX11 a3 uq kq q_q ([(a4, .inl (cB37, 26, .inl m_v))]))) [0, 1, 2, 3, 4, 5, 6, 7, 8, 9, 10, 11, 12, 13, 14, 15, 16] (by decide) rfl
          have hK9 := hK.sub (tys' := []) [] rfl
          rw [hQQ]
          exact W.lret (v := v18_l3) hx hb hr (fun t ht hW => ⟨⟨v18_l3, (), rfl, rfl, by rw [ht]; exact hP9, va_K.moved hW.alike hK9, hD9⟩, hS.F ht⟩) hS.2.2 dX12_oddsOf_96
        · have h := (if_neg c27).symm.trans h
          refine lv_aload_n hx hb dX12_oddsOf_30 rfl (lv_at hl 2 rfl) ?_
          refine va_get (D := (dC, dI)) (ci := 9) (v := .ref a4) (C := RX12) (T := TX12) (N := 30) hx hb hts ifX12_oddsOf_X12 hown hK hP 0 rfl rfl 15 (by decide) (hts (.fieldLink RX12 17 "HookPierModel" "v" "[I") (List.mem_of_getElem? (i := 1) rfl)) (fun _ h9 => h9) rfl dX12_oddsOf_31 ?_
          refine lv_iconst (v := 0) hx hb dX12_oddsOf_34 (by decide) ?_
          refine lv_iload hx hb dX12_oddsOf_35 (lv_at hl 0 rfl) ?_
          refine lv_iadd hx hb dX12_oddsOf_37 ?_
          obtain ⟨hg38, h⟩ := gA_of h
          refine va_iald hx hb hK hP 16 14 rfl rfl hg38 dX12_oddsOf_38 ?_
          have J89 : ∀ (v89_l3 : Int64) (H : Heap) (locs : List Loc) (ls : Array Slot), f_X12_oddsOf_J89 (f_X12_oddsOf_L18 k1 k2 m_v q_q n18) v18_l5 v89_l3 = some out → va_P (dC, dI) vwCl ((a0, .inr (9, [g8, g9, g10, .ref a3, g11, g12, g13, g14, g15, g16, g17, g18, g19, g20, g21, .ref a4, g22, g23, g24, g25, g26, g27, g28, g29, g30, g31, g32, g33, g34, g35])) :: bX11 a3 uq kq q_q ([(a4, .inl (cB37, 26, .inl m_v))])) H → va_D A ((a0, .inr (9, [g8, g9, g10, .ref a3, g11, g12, g13, g14, g15, g16, g17, g18, g19, g20, g21, .ref a4, g22, g23, g24, g25, g26, g27, g28, g29, g30, g31, g32, g33, g34, g35])) :: bX11 a3 uq kq q_q ([(a4, .inl (cB37, 26, .inl m_v))])) → va_S A s.heap H locs → lv_has ls 6 [(5, .int v18_l5), (3, .long v89_l3), (0, .ref a0), (1, .int k1), (2, .int k2)] → W p l e (headSpec vfX12_oddsOf { frames := 4, cells := 0, slots := 0, locals := 93 }).room s m ([.ref a0, .int k1, .int k2]).toArray below meth c H locs 0 0 QQ (F0 m 89 ls []) := by
            intro v89_l3 H locs ls h  hP hD hS hl
            rw [f_X12_oddsOf_J89] at h
            refine lv_iinc (v := (v18_l5 + (1 : Int32))) (lv' := [(5, .int (v18_l5 + (1 : Int32))), (3, .long v89_l3), (0, .ref a0), (1, .int k1), (2, .int k2)]) hx hb dX12_oddsOf_89 hl (k := 0) rfl rfl (by decide) rfl (fun ls hl => ?_)
            refine lv_goto (tgt := 18) hx hb dX12_oddsOf_92 (by decide) ?_
            exact ih18 (v18_l5 + (1 : Int32)) v89_l3 H _ ls h  hP hD hS (lv_sub hl [0, 1, 2, 3, 4] rfl)
          refine lv_if_eq (tgt := 45) hx hb dX12_oddsOf_39 (by decide) (fun c39 => ?_) (fun c39 => ?_)
          · have h := (if_pos c39).symm.trans h
            refine lv_lload_n hx hb dX12_oddsOf_45 rfl (lv_at hl 1 rfl) ?_
            refine lv_iload hx hb dX12_oddsOf_46 (lv_at hl 0 rfl) ?_
            refine lv_iload_n hx hb dX12_oddsOf_48 rfl (lv_at hl 3 rfl) ?_
            have J87 : ∀ (v87_t1 : Int64) (H : Heap) (locs : List Loc) (ls : Array Slot), f_X12_oddsOf_J87 (f_X12_oddsOf_L18 k1 k2 m_v q_q n18) v18_l3 v18_l5 v87_t1 = some out → va_P (dC, dI) vwCl ((a0, .inr (9, [g8, g9, g10, .ref a3, g11, g12, g13, g14, g15, g16, g17, g18, g19, g20, g21, .ref a4, g22, g23, g24, g25, g26, g27, g28, g29, g30, g31, g32, g33, g34, g35])) :: bX11 a3 uq kq q_q ([(a4, .inl (cB37, 26, .inl m_v))])) H → va_D A ((a0, .inr (9, [g8, g9, g10, .ref a3, g11, g12, g13, g14, g15, g16, g17, g18, g19, g20, g21, .ref a4, g22, g23, g24, g25, g26, g27, g28, g29, g30, g31, g32, g33, g34, g35])) :: bX11 a3 uq kq q_q ([(a4, .inl (cB37, 26, .inl m_v))])) → va_S A s.heap H locs → lv_has ls 6 [(5, .int v18_l5), (0, .ref a0), (1, .int k1), (2, .int k2)] → W p l e (headSpec vfX12_oddsOf { frames := 4, cells := 0, slots := 0, locals := 93 }).room s m ([.ref a0, .int k1, .int k2]).toArray below meth c H locs 0 0 QQ (F0 m 87 ls [.long v87_t1, .long v18_l3]) := by
              intro v87_t1 H locs ls h  hP hD hS hl
              rw [f_X12_oddsOf_J87] at h
              refine lv_lmul hx hb dX12_oddsOf_87 ?_
              refine lv_lstore_n (lv' := [(3, .long (v18_l3 * v87_t1)), (5, .int v18_l5), (0, .ref a0), (1, .int k1), (2, .int k2)]) hx hb dX12_oddsOf_88 rfl hl (by decide) rfl (fun ls hl => ?_)
              exact J89 (v18_l3 * v87_t1) H _ ls h  hP hD hS (lv_sub hl [1, 0, 2, 3, 4] rfl)
            refine lv_icmp_ge (tgt := 67) hx hb dX12_oddsOf_49 (by decide) (fun c49 => ?_) (fun c49 => ?_)
            · have h := (if_pos c49).symm.trans h
              refine lv_iload hx hb dX12_oddsOf_67 (lv_at hl 0 rfl) ?_
              refine lv_iload_n hx hb dX12_oddsOf_69 rfl (lv_at hl 3 rfl) ?_
              refine lv_icmp_ne (tgt := 84) hx hb dX12_oddsOf_70 (by decide) (fun c70 => ?_) (fun c70 => ?_)
              · have h := (if_neg c70).symm.trans h
                refine lv_ldc2 hx hb hown (hts (.constantLong RX12 344 (100)) (List.mem_of_getElem? (i := 3) rfl)) dX12_oddsOf_84 ?_
                exact J87 (100 : Int64) H _ ls h  hP hD hS (lv_sub hl [0, 2, 3, 4] rfl)
              · have h := (if_pos c70).symm.trans h
                refine lv_aload_n hx hb dX12_oddsOf_73 rfl (lv_at hl 2 rfl) ?_
                refine lv_iload hx hb dX12_oddsOf_74 (lv_at hl 0 rfl) ?_
                refine lv_iload_n hx hb dX12_oddsOf_76 rfl (lv_at hl 4 rfl) ?_
                obtain ⟨o77, eo77, h⟩ := bd_of h
                refine cl_i (wc := ((a0, .inr (9, [g8, g9, g10, .ref a3, g11, g12, g13, g14, g15, g16, g17, g18, g19, g20, g21, .ref a4, g22, g23, g24, g25, g26, g27, g28, g29, g30, g31, g32, g33, g34, g35])) :: bX11 a3 uq kq q_q [])) (wr := ([(a4, .inl (cB37, 26, .inl m_v))])) (va_runV (As := [.int v18_l5, .int k2]) (rest := [.long v18_l3]) ⟨hx, hb, hml, hown, hts⟩ (kfX12_wishOf l dC dI a0 v18_l5 k2 a3 uq kq (g8) (g9) (g10) (g11) (g12) (g13) (g14) (g15) (g16) (g17) (g18) (g19) (g20) (g21) (.ref a4) (g22) (g23) (g24) (g25) (g26) (g27) (g28) (g29) (g30) (g31) (g32) (g33) (g34) (g35) q_q H.size o77 eo77) (cwV 2 hts gfX12_oddsOf_0 rfl rfl rfl (by decide +kernel) ⟨(Nat.le_of_ble_eq_true rfl), (Nat.le_of_ble_eq_true rfl)⟩) (PV (hP.sub (ws' := ((a0, .inr (9, [g8, g9, g10, .ref a3, g11, g12, g13, g14, g15, g16, g17, g18, g19, g20, g21, .ref a4, g22, g23, g24, g25, g26, g27, g28, g29, g30, g31, g32, g33, g34, g35])) :: bX11 a3 uq kq q_q [])) [0, 1, 2, 3, 4, 5, 6, 7, 8, 9, 10, 11, 12, 13, 14, 15] rfl) (hK.sub (tys' := (tX11 kq ([]))) [0, 1, 2, 3, 4, 5, 6, 7, 8, 9, 10, 11, 12, 13] rfl) (hD.sub (ws' := ((a0, .inr (9, [g8, g9, g10, .ref a3, g11, g12, g13, g14, g15, g16, g17, g18, g19, g20, g21, .ref a4, g22, g23, g24, g25, g26, g27, g28, g29, g30, g31, g32, g33, g34, g35])) :: bX11 a3 uq kq q_q [])) [0, 1, 2, 3, 4, 5, 6, 7, 8, 9, 10, 11, 12, 13, 14, 15] (by decide) rfl) hN 0 rfl rfl) rfl rfl hl.1 rfl (lv_room (Nat.le_of_ble_eq_true rfl)) dX12_oddsOf_77 ⟨(Nat.le_of_ble_eq_true rfl), (Nat.le_of_ble_eq_true rfl)⟩) hP hD hK hS hA [0, 1, 2, 3, 4, 5, 6, 7, 8, 9, 10, 11, 12, 13, 14, 15] [16] rfl rfl (by decide) (by decide) (fun r77 _ H locs hw hP hD _ hS => ?_)
                obtain rfl := hw.symm
                have hP : va_P (dC, dI) vwCl ((a4, .inl (cB37, 26, .inl m_v)) :: (a0, .inr (9, [g8, g9, g10, .ref a3, g11, g12, g13, g14, g15, g16, g17, g18, g19, g20, g21, .ref a4, g22, g23, g24, g25, g26, g27, g28, g29, g30, g31, g32, g33, g34, g35])) :: bX11 a3 uq kq q_q []) H := hP
                have hD : va_D A ((a4, .inl (cB37, 26, .inl m_v)) :: (a0, .inr (9, [g8, g9, g10, .ref a3, g11, g12, g13, g14, g15, g16, g17, g18, g19, g20, g21, .ref a4, g22, g23, g24, g25, g26, g27, g28, g29, g30, g31, g32, g33, g34, g35])) :: bX11 a3 uq kq q_q []) := hD
                refine lv_i2l hx hb dX12_oddsOf_80 rfl ?_
                refine lv_goto (tgt := 87) hx hb dX12_oddsOf_81 (by decide) ?_
                exact J87 (o77).toInt64 H _ ls h  (hP.sub (ws' := ((a0, .inr (9, [g8, g9, g10, .ref a3, g11, g12, g13, g14, g15, g16, g17, g18, g19, g20, g21, .ref a4, g22, g23, g24, g25, g26, g27, g28, g29, g30, g31, g32, g33, g34, g35])) :: bX11 a3 uq kq q_q ([(a4, .inl (cB37, 26, .inl m_v))]))) [1, 2, 3, 4, 5, 6, 7, 8, 9, 10, 11, 12, 13, 14, 15, 16, 0] rfl) (hD.sub (ws' := ((a0, .inr (9, [g8, g9, g10, .ref a3, g11, g12, g13, g14, g15, g16, g17, g18, g19, g20, g21, .ref a4, g22, g23, g24, g25, g26, g27, g28, g29, g30, g31, g32, g33, g34, g35])) :: bX11 a3 uq kq q_q ([(a4, .inl (cB37, 26, .inl m_v))]))) [1, 2, 3, 4, 5, 6, 7, 8, 9, 10, 11, 12, 13, 14, 15, 16, 0] (by decide) rfl) hS (lv_sub hl [0, 2, 3, 4] rfl)
            · have h := (if_neg c49).symm.trans h
              refine lv_ldc2 hx hb hown (hts (.constantLong RX12 344 (100)) (List.mem_of_getElem? (i := 3) rfl)) dX12_oddsOf_52 ?_
              refine lv_aload_n hx hb dX12_oddsOf_55 rfl (lv_at hl 2 rfl) ?_
              refine lv_iload hx hb dX12_oddsOf_56 (lv_at hl 0 rfl) ?_
              refine lv_iload_n hx hb dX12_oddsOf_58 rfl (lv_at hl 4 rfl) ?_
              obtain ⟨o59, eo59, h⟩ := bd_of h
              refine cl_i (wc := ((a0, .inr (9, [g8, g9, g10, .ref a3, g11, g12, g13, g14, g15, g16, g17, g18, g19, g20, g21, .ref a4, g22, g23, g24, g25, g26, g27, g28, g29, g30, g31, g32, g33, g34, g35])) :: bX11 a3 uq kq q_q [])) (wr := ([(a4, .inl (cB37, 26, .inl m_v))])) (va_runV (As := [.int v18_l5, .int k2]) (rest := [.long 100, .long v18_l3]) ⟨hx, hb, hml, hown, hts⟩ (kfX12_wishOf l dC dI a0 v18_l5 k2 a3 uq kq (g8) (g9) (g10) (g11) (g12) (g13) (g14) (g15) (g16) (g17) (g18) (g19) (g20) (g21) (.ref a4) (g22) (g23) (g24) (g25) (g26) (g27) (g28) (g29) (g30) (g31) (g32) (g33) (g34) (g35) q_q H.size o59 eo59) (cwV 2 hts gfX12_oddsOf_0 rfl rfl rfl (by decide +kernel) ⟨(Nat.le_of_ble_eq_true rfl), (Nat.le_of_ble_eq_true rfl)⟩) (PV (hP.sub (ws' := ((a0, .inr (9, [g8, g9, g10, .ref a3, g11, g12, g13, g14, g15, g16, g17, g18, g19, g20, g21, .ref a4, g22, g23, g24, g25, g26, g27, g28, g29, g30, g31, g32, g33, g34, g35])) :: bX11 a3 uq kq q_q [])) [0, 1, 2, 3, 4, 5, 6, 7, 8, 9, 10, 11, 12, 13, 14, 15] rfl) (hK.sub (tys' := (tX11 kq ([]))) [0, 1, 2, 3, 4, 5, 6, 7, 8, 9, 10, 11, 12, 13] rfl) (hD.sub (ws' := ((a0, .inr (9, [g8, g9, g10, .ref a3, g11, g12, g13, g14, g15, g16, g17, g18, g19, g20, g21, .ref a4, g22, g23, g24, g25, g26, g27, g28, g29, g30, g31, g32, g33, g34, g35])) :: bX11 a3 uq kq q_q [])) [0, 1, 2, 3, 4, 5, 6, 7, 8, 9, 10, 11, 12, 13, 14, 15] (by decide) rfl) hN 0 rfl rfl) rfl rfl hl.1 rfl (lv_room (Nat.le_of_ble_eq_true rfl)) dX12_oddsOf_59 ⟨(Nat.le_of_ble_eq_true rfl), (Nat.le_of_ble_eq_true rfl)⟩) hP hD hK hS hA [0, 1, 2, 3, 4, 5, 6, 7, 8, 9, 10, 11, 12, 13, 14, 15] [16] rfl rfl (by decide) (by decide) (fun r59 _ H locs hw hP hD _ hS => ?_)
              obtain rfl := hw.symm
              have hP : va_P (dC, dI) vwCl ((a4, .inl (cB37, 26, .inl m_v)) :: (a0, .inr (9, [g8, g9, g10, .ref a3, g11, g12, g13, g14, g15, g16, g17, g18, g19, g20, g21, .ref a4, g22, g23, g24, g25, g26, g27, g28, g29, g30, g31, g32, g33, g34, g35])) :: bX11 a3 uq kq q_q []) H := hP
              have hD : va_D A ((a4, .inl (cB37, 26, .inl m_v)) :: (a0, .inr (9, [g8, g9, g10, .ref a3, g11, g12, g13, g14, g15, g16, g17, g18, g19, g20, g21, .ref a4, g22, g23, g24, g25, g26, g27, g28, g29, g30, g31, g32, g33, g34, g35])) :: bX11 a3 uq kq q_q []) := hD
              refine lv_i2l hx hb dX12_oddsOf_62 rfl ?_
              refine lv_lsub hx hb dX12_oddsOf_63 ?_
              refine lv_goto (tgt := 87) hx hb dX12_oddsOf_64 (by decide) ?_
              exact J87 ((100 : Int64) - (o59).toInt64) H _ ls h  (hP.sub (ws' := ((a0, .inr (9, [g8, g9, g10, .ref a3, g11, g12, g13, g14, g15, g16, g17, g18, g19, g20, g21, .ref a4, g22, g23, g24, g25, g26, g27, g28, g29, g30, g31, g32, g33, g34, g35])) :: bX11 a3 uq kq q_q ([(a4, .inl (cB37, 26, .inl m_v))]))) [1, 2, 3, 4, 5, 6, 7, 8, 9, 10, 11, 12, 13, 14, 15, 16, 0] rfl) (hD.sub (ws' := ((a0, .inr (9, [g8, g9, g10, .ref a3, g11, g12, g13, g14, g15, g16, g17, g18, g19, g20, g21, .ref a4, g22, g23, g24, g25, g26, g27, g28, g29, g30, g31, g32, g33, g34, g35])) :: bX11 a3 uq kq q_q ([(a4, .inl (cB37, 26, .inl m_v))]))) [1, 2, 3, 4, 5, 6, 7, 8, 9, 10, 11, 12, 13, 14, 15, 16, 0] (by decide) rfl) hS (lv_sub hl [0, 2, 3, 4] rfl)
          · have h := (if_neg c39).symm.trans h
            refine lv_goto (tgt := 89) hx hb dX12_oddsOf_42 (by decide) ?_
            exact J89 v18_l3 H _ ls h  hP hD hS (lv_sub hl [0, 1, 2, 3, 4] rfl)
    exact L18 FU (0 : Int32) (1 : Int64) s.heap _ ls h  hP hD hS (lv_sub hl [0, 1, 2, 3, 4] rfl)
  · have h := (if_neg c8).symm.trans h
    refine lv_lconst (v := 0) hx hb dX12_oddsOf_11 (by decide) ?_
    obtain rfl := Option.some.inj h
    have hP9 := hP.sub (ws' := ((a0, .inr (9, [g8, g9, g10, .ref a3, g11, g12, g13, g14, g15, g16, g17, g18, g19, g20, g21, .ref a4, g22, g23, g24, g25, g26, g27, g28, g29, g30, g31, g32, g33, g34, g35])) :: bX11 a3 uq kq q_q ([(a4, .inl (cB37, 26, .inl m_v))]))) [0, 1, 2, 3, 4, 5, 6, 7, 8, 9, 10, 11, 12, 13, 14, 15, 16] rfl
    have hD9 := hD.sub (ws' := ((a0, .inr (9, [g8, g9, g10, .ref a3, g11, g12, g13, g14, g15, g16, g17, g18, g19, g20, g21, .ref a4, g22, g23, g24, g25, g26, g27, g28, g29, g30, g31, g32, g33, g34, g35])) :: bX11 a3 uq kq q_q ([(a4, .inl (cB37, 26, .inl m_v))]))) [0, 1, 2, 3, 4, 5, 6, 7, 8, 9, 10, 11, 12, 13, 14, 15, 16] (by decide) rfl
    have hK9 := hK.sub (tys' := []) [] rfl
    rw [hQQ]
    exact W.lret (v := (0 : Int64)) hx hb hr (fun t ht hW => ⟨⟨(0 : Int64), (), rfl, rfl, by rw [ht]; exact hP9, va_K.moved hW.alike hK9, hD9⟩, hS.F ht⟩) hS.2.2 dX12_oddsOf_12
theorem dX12_whole_0 : decode cX12_whole 0 = .ok (.lconst 1, 1) := by decide +kernel
theorem dX12_whole_1 : decode cX12_whole 1 = .ok (.lstore_n 1, 1) := by decide +kernel
theorem dX12_whole_12 : decode cX12_whole 12 = .ok (.if_icmp .ge 30, 3) := by decide +kernel
theorem dX12_whole_15 : decode cX12_whole 15 = .ok (.lload_n 1, 1) := by decide +kernel
theorem dX12_whole_16 : decode cX12_whole 16 = .ok (.aload_n 0, 1) := by decide +kernel
theorem dX12_whole_17 : decode cX12_whole 17 = .ok (.getfield 17, 3) := by decide +kernel
theorem dX12_whole_2 : decode cX12_whole 2 = .ok (.iconst 0, 1) := by decide +kernel
theorem dX12_whole_20 : decode cX12_whole 20 = .ok (.iconst 0, 1) := by decide +kernel
theorem dX12_whole_21 : decode cX12_whole 21 = .ok (.iload_n 3, 1) := by decide +kernel
theorem dX12_whole_22 : decode cX12_whole 22 = .ok (.iadd, 1) := by decide +kernel
theorem dX12_whole_23 : decode cX12_whole 23 = .ok (.iaload, 1) := by decide +kernel
theorem dX12_whole_24 : decode cX12_whole 24 = .ok (.ifCond .ne 9, 3) := by decide +kernel
theorem dX12_whole_27 : decode cX12_whole 27 = .ok (.ldc2_w 344, 3) := by decide +kernel
theorem dX12_whole_3 : decode cX12_whole 3 = .ok (.istore_n 3, 1) := by decide +kernel
theorem dX12_whole_30 : decode cX12_whole 30 = .ok (.goto 4, 3) := by decide +kernel
theorem dX12_whole_33 : decode cX12_whole 33 = .ok (.lconst 1, 1) := by decide +kernel
theorem dX12_whole_34 : decode cX12_whole 34 = .ok (.lmul, 1) := by decide +kernel
theorem dX12_whole_35 : decode cX12_whole 35 = .ok (.lstore_n 1, 1) := by decide +kernel
theorem dX12_whole_36 : decode cX12_whole 36 = .ok (.iinc 3 1, 3) := by decide +kernel
theorem dX12_whole_39 : decode cX12_whole 39 = .ok (.goto (-35), 3) := by decide +kernel
theorem dX12_whole_4 : decode cX12_whole 4 = .ok (.iload_n 3, 1) := by decide +kernel
theorem dX12_whole_42 : decode cX12_whole 42 = .ok (.lload_n 1, 1) := by decide +kernel
theorem dX12_whole_43 : decode cX12_whole 43 = .ok (.lreturn, 1) := by decide +kernel
theorem dX12_whole_5 : decode cX12_whole 5 = .ok (.aload_n 0, 1) := by decide +kernel
theorem dX12_whole_6 : decode cX12_whole 6 = .ok (.getfield 299, 3) := by decide +kernel
theorem dX12_whole_9 : decode cX12_whole 9 = .ok (.getfield 231, 3) := by decide +kernel
def vfX12_whole : List Cond := List.cons (.code yX12_whole cX12_whole 4 (some .long)) (apW [.fieldLink RX12 299 "HookPierModel" "pier" "LHookPierModel$Pier;", .fieldLink RX12 17 "HookPierModel" "v" "[I", .constantLong RX12 344 (100)] (apW wsX120 (wsX110)))
theorem ifX12_whole_X12 : ∀ w ∈ wsX120, w ∈ vfX12_whole := fun _ h => (List.mem_cons_of_mem _ (List.mem_append_right _ (List.mem_append_left _ h)))
theorem ifX12_whole_X11 : ∀ w ∈ wsX110, w ∈ vfX12_whole := fun _ h => (List.mem_cons_of_mem _ (List.mem_append_right _ (List.mem_append_right _ h)))
theorem qfX12_whole : Good vfX12_whole := gd_cons (by decide +kernel) (gd_app (gd_dec (by decide +kernel) : Good [.fieldLink RX12 299 "HookPierModel" "pier" "LHookPierModel$Pier;", .fieldLink RX12 17 "HookPierModel" "v" "[I", .constantLong RX12 344 (100)]) (gd_app qsX12 qsX11))
set_option maxHeartbeats 2000000 in
set_option maxRecDepth 100000 in
theorem kfX12_whole (l : Launch) (dC : Nat → ClassId) (dI : Nat → Nat → Nat) (a0 : Nat) (a1 : Nat) (a2 : Nat) (uq : Nat → Nat) (kq : Nat → ClassId) (m_v : TX12_v) (g6 : Value) (g7 : Value) (g8 : Value) (g9 : Value) (g10 : Value) (g11 : Value) (g12 : Value) (g13 : Value) (g14 : Value) (g15 : Value) (g16 : Value) (g17 : Value) (g18 : Value) (g19 : Value) (g20 : Value) (g21 : Value) (g22 : Value) (g23 : Value) (g24 : Value) (g25 : Value) (g26 : Value) (g27 : Value) (g28 : Value) (g29 : Value) (g30 : Value) (g31 : Value) (g32 : Value) (g33 : Value) (q_q : TX11_q) (cB35 : ClassId) (sz : Nat) (out : Int64) (h : f_X12_whole m_v q_q = some out) : Met l yX12_whole vfX12_whole ({ frames := 0, cells := 0, slots := 0, locals := 0 }) (PC (dC, dI) [.ref a0] sz ((a0, .inr (9, [g6, g7, g8, .ref a1, g9, g10, g11, g12, g13, g14, g15, g16, g17, g18, g19, .ref a2, g20, g21, g22, g23, g24, g25, g26, g27, g28, g29, g30, g31, g32, g33])) :: bX11 a1 uq kq q_q ([(a2, .inl (cB35, 26, .inl m_v))])) (tX11 kq ((cB35, .int) :: []))) (va_Ql (S := Unit) (fun (r : Int64) _ => r = out) (fun _ t => BC (dC, dI) (va_A ((a0, .inr (9, [g6, g7, g8, .ref a1, g9, g10, g11, g12, g13, g14, g15, g16, g17, g18, g19, .ref a2, g20, g21, g22, g23, g24, g25, g26, g27, g28, g29, g30, g31, g32, g33])) :: bX11 a1 uq kq q_q ([(a2, .inl (cB35, 26, .inl m_v))])) sz) ((a0, .inr (9, [g6, g7, g8, .ref a1, g9, g10, g11, g12, g13, g14, g15, g16, g17, g18, g19, .ref a2, g20, g21, g22, g23, g24, g25, g26, g27, g28, g29, g30, g31, g32, g33])) :: bX11 a1 uq kq q_q ([(a2, .inl (cB35, 26, .inl m_v))])) [] t) (va_A ((a0, .inr (9, [g6, g7, g8, .ref a1, g9, g10, g11, g12, g13, g14, g15, g16, g17, g18, g19, .ref a2, g20, g21, g22, g23, g24, g25, g26, g27, g28, g29, g30, g31, g32, g33])) :: bX11 a1 uq kq q_q ([(a2, .inl (cB35, 26, .inl m_v))])) sz)) 0 0 (va_A ((a0, .inr (9, [g6, g7, g8, .ref a1, g9, g10, g11, g12, g13, g14, g15, g16, g17, g18, g19, .ref a2, g20, g21, g22, g23, g24, g25, g26, g27, g28, g29, g30, g31, g32, g33])) :: bX11 a1 uq kq q_q ([(a2, .inl (cB35, 26, .inl m_v))])) sz) := by
  refine Met.ofW (cc := cX12_whole) (maxL := 4) (ret := (some .long)) (by decide) rfl ?_
  intro p e s m args below meth c s₁ B0 hml hv
  obtain ⟨rfl, hsz, hP, hK, hD0, hN⟩ := hv
  have hx := B0.exec
  have hb := B0.bytes
  have hr := B0.returns
  have hts := atoms_spec (ws := vfX12_whole) B0.pre
  have hown : s.vm.findClass RX12 = some m.cls := findClass_of_methodNamed B0.named
  have hlocks := B0.notSynchronized
  subst hsz
  have hD := hD0.self (sz := s.heap.size)
  generalize hAe : va_A ((a0, .inr (9, [g6, g7, g8, .ref a1, g9, g10, g11, g12, g13, g14, g15, g16, g17, g18, g19, .ref a2, g20, g21, g22, g23, g24, g25, g26, g27, g28, g29, g30, g31, g32, g33])) :: bX11 a1 uq kq q_q ([(a2, .inl (cB35, 26, .inl m_v))])) s.heap.size = A at hD ⊢
  have hA : ∀ q : Nat, s.heap.size ≤ q → A q := fun q h => by rw [← hAe]; exact Or.inr h
  have hS : va_S A s.heap s.heap [] := va_S.rf
  have hP : va_P (dC, dI) vwCl ((a0, .inr (9, [g6, g7, g8, .ref a1, g9, g10, g11, g12, g13, g14, g15, g16, g17, g18, g19, .ref a2, g20, g21, g22, g23, g24, g25, g26, g27, g28, g29, g30, g31, g32, g33])) :: bX11 a1 uq kq q_q ([(a2, .inl (cB35, 26, .inl m_v))])) s.heap := hP
  have hl := lv_entry ([.ref a0]) (n := 4) (Nat.le_of_ble_eq_true rfl)
  rw [lg_entry_eq]
  generalize (lg_sl ([.ref a0]) ++ List.replicate (4 - (lg_sl ([.ref a0])).length) Slot.unset).toArray = ls at hl ⊢
  have hl : lv_has ls 4 [(0, .ref a0)] := hl
  refine W_q (fun QQ hQQ => ?_)
  rw [f_X12_whole] at h
  refine lv_lconst (v := 1) hx hb dX12_whole_0 (by decide) ?_
  refine lv_lstore_n (lv' := [(1, .long 1), (0, .ref a0)]) hx hb dX12_whole_1 rfl hl (by decide) rfl (fun ls hl => ?_)
  refine lv_iconst (v := 0) hx hb dX12_whole_2 (by decide) ?_
  refine lv_istore_n (lv' := [(3, .int 0), (1, .long 1), (0, .ref a0)]) hx hb dX12_whole_3 rfl hl (by decide) rfl (fun ls hl => ?_)
  have L4 : ∀ (n4 : Nat) (v4_l3 : Int32) (v4_l1 : Int64) (H : Heap) (locs : List Loc) (ls : Array Slot), f_X12_whole_L4 m_v q_q n4 v4_l3 v4_l1 = some out → va_P (dC, dI) vwCl ((a0, .inr (9, [g6, g7, g8, .ref a1, g9, g10, g11, g12, g13, g14, g15, g16, g17, g18, g19, .ref a2, g20, g21, g22, g23, g24, g25, g26, g27, g28, g29, g30, g31, g32, g33])) :: bX11 a1 uq kq q_q ([(a2, .inl (cB35, 26, .inl m_v))])) H → va_D A ((a0, .inr (9, [g6, g7, g8, .ref a1, g9, g10, g11, g12, g13, g14, g15, g16, g17, g18, g19, .ref a2, g20, g21, g22, g23, g24, g25, g26, g27, g28, g29, g30, g31, g32, g33])) :: bX11 a1 uq kq q_q ([(a2, .inl (cB35, 26, .inl m_v))])) → va_S A s.heap H locs → lv_has ls 4 [(3, .int v4_l3), (1, .long v4_l1), (0, .ref a0)] → W p l e (headSpec vfX12_whole { frames := 0, cells := 0, slots := 0, locals := 0 }).room s m ([.ref a0]).toArray below meth c H locs 0 0 QQ (F0 m 4 ls []) := by
    intro n4
    induction n4 with
    | zero =>
      intro v4_l3 v4_l1 H locs ls h  _ _ _ _
      rw [f_X12_whole_L4] at h
      cases h
    | succ n4 ih4 =>
      intro v4_l3 v4_l1 H locs ls h  hP hD hS hl
      rw [f_X12_whole_L4] at h
      refine lv_iload_n hx hb dX12_whole_4 rfl (lv_at hl 0 rfl) ?_
      refine lv_aload_n hx hb dX12_whole_5 rfl (lv_at hl 2 rfl) ?_
      refine va_get (D := (dC, dI)) (ci := 9) (v := .ref a1) (C := RX12) (T := TX12) (N := 30) hx hb hts ifX12_whole_X12 hown hK hP 0 rfl rfl 3 (by decide) (hts (.fieldLink RX12 299 "HookPierModel" "pier" "LHookPierModel$Pier;") (List.mem_of_getElem? (i := 1) rfl)) (fun _ h9 => h9) rfl dX12_whole_6 ?_
      refine va_getN (D := (dC, dI)) (ci := 8) (v := .int q_q.2.2.2.2.2.2.1) (C := RX11) (T := TX11) (N := 24) hx hb hts ifX12_whole_X11 hown hK hP 1 rfl rfl 6 (by decide) (va_Nw.use rfl (hN.1 (.fieldLinkNest RX12 231 "HookPierModel$Pier" "answers" "I" "HookPierModel") (List.mem_of_getElem? (i := 28) rfl))) (fun _ h9 => h9) rfl dX12_whole_9 ?_
      refine lv_icmp_ge (tgt := 42) hx hb dX12_whole_12 (by decide) (fun c12 => ?_) (fun c12 => ?_)
      · have h := (if_pos c12).symm.trans h
        refine lv_lload_n hx hb dX12_whole_42 rfl (lv_at hl 1 rfl) ?_
        obtain rfl := Option.some.inj h
        have hP9 := hP.sub (ws' := ((a0, .inr (9, [g6, g7, g8, .ref a1, g9, g10, g11, g12, g13, g14, g15, g16, g17, g18, g19, .ref a2, g20, g21, g22, g23, g24, g25, g26, g27, g28, g29, g30, g31, g32, g33])) :: bX11 a1 uq kq q_q ([(a2, .inl (cB35, 26, .inl m_v))]))) [0, 1, 2, 3, 4, 5, 6, 7, 8, 9, 10, 11, 12, 13, 14, 15, 16] rfl
        have hD9 := hD.sub (ws' := ((a0, .inr (9, [g6, g7, g8, .ref a1, g9, g10, g11, g12, g13, g14, g15, g16, g17, g18, g19, .ref a2, g20, g21, g22, g23, g24, g25, g26, g27, g28, g29, g30, g31, g32, g33])) :: bX11 a1 uq kq q_q ([(a2, .inl (cB35, 26, .inl m_v))]))) [0, 1, 2, 3, 4, 5, 6, 7, 8, 9, 10, 11, 12, 13, 14, 15, 16] (by decide) rfl
        have hK9 := hK.sub (tys' := []) [] rfl
        rw [hQQ]
        exact W.lret (v := v4_l1) hx hb hr (fun t ht hW => ⟨⟨v4_l1, (), rfl, rfl, by rw [ht]; exact hP9, va_K.moved hW.alike hK9, hD9⟩, hS.F ht⟩) hS.2.2 dX12_whole_43
      · have h := (if_neg c12).symm.trans h
        refine lv_lload_n hx hb dX12_whole_15 rfl (lv_at hl 1 rfl) ?_
        refine lv_aload_n hx hb dX12_whole_16 rfl (lv_at hl 2 rfl) ?_
        refine va_get (D := (dC, dI)) (ci := 9) (v := .ref a2) (C := RX12) (T := TX12) (N := 30) hx hb hts ifX12_whole_X12 hown hK hP 0 rfl rfl 15 (by decide) (hts (.fieldLink RX12 17 "HookPierModel" "v" "[I") (List.mem_of_getElem? (i := 2) rfl)) (fun _ h9 => h9) rfl dX12_whole_17 ?_
        refine lv_iconst (v := 0) hx hb dX12_whole_20 (by decide) ?_
        refine lv_iload_n hx hb dX12_whole_21 rfl (lv_at hl 0 rfl) ?_
        refine lv_iadd hx hb dX12_whole_22 ?_
        obtain ⟨hg23, h⟩ := gA_of h
        refine va_iald hx hb hK hP 16 14 rfl rfl hg23 dX12_whole_23 ?_
        have J34 : ∀ (v34_t1 : Int64) (H : Heap) (locs : List Loc) (ls : Array Slot), f_X12_whole_J34 (f_X12_whole_L4 m_v q_q n4) v4_l1 v4_l3 v34_t1 = some out → va_P (dC, dI) vwCl ((a0, .inr (9, [g6, g7, g8, .ref a1, g9, g10, g11, g12, g13, g14, g15, g16, g17, g18, g19, .ref a2, g20, g21, g22, g23, g24, g25, g26, g27, g28, g29, g30, g31, g32, g33])) :: bX11 a1 uq kq q_q ([(a2, .inl (cB35, 26, .inl m_v))])) H → va_D A ((a0, .inr (9, [g6, g7, g8, .ref a1, g9, g10, g11, g12, g13, g14, g15, g16, g17, g18, g19, .ref a2, g20, g21, g22, g23, g24, g25, g26, g27, g28, g29, g30, g31, g32, g33])) :: bX11 a1 uq kq q_q ([(a2, .inl (cB35, 26, .inl m_v))])) → va_S A s.heap H locs → lv_has ls 4 [(3, .int v4_l3), (0, .ref a0)] → W p l e (headSpec vfX12_whole { frames := 0, cells := 0, slots := 0, locals := 0 }).room s m ([.ref a0]).toArray below meth c H locs 0 0 QQ (F0 m 34 ls [.long v34_t1, .long v4_l1]) := by
          intro v34_t1 H locs ls h  hP hD hS hl
          rw [f_X12_whole_J34] at h
          refine lv_lmul hx hb dX12_whole_34 ?_
          refine lv_lstore_n (lv' := [(1, .long (v4_l1 * v34_t1)), (3, .int v4_l3), (0, .ref a0)]) hx hb dX12_whole_35 rfl hl (by decide) rfl (fun ls hl => ?_)
          refine lv_iinc (v := (v4_l3 + (1 : Int32))) (lv' := [(3, .int (v4_l3 + (1 : Int32))), (1, .long (v4_l1 * v34_t1)), (0, .ref a0)]) hx hb dX12_whole_36 hl (k := 1) rfl rfl (by decide) rfl (fun ls hl => ?_)
          refine lv_goto (tgt := 4) hx hb dX12_whole_39 (by decide) ?_
          exact ih4 (v4_l3 + (1 : Int32)) (v4_l1 * v34_t1) H _ ls h  hP hD hS (lv_sub hl [0, 1, 2] rfl)
        refine lv_if_ne (tgt := 33) hx hb dX12_whole_24 (by decide) (fun c24 => ?_) (fun c24 => ?_)
        · have h := (if_neg c24).symm.trans h
          refine lv_lconst (v := 1) hx hb dX12_whole_33 (by decide) ?_
          exact J34 (1 : Int64) H _ ls h  hP hD hS (lv_sub hl [0, 2] rfl)
        · have h := (if_pos c24).symm.trans h
          refine lv_ldc2 hx hb hown (hts (.constantLong RX12 344 (100)) (List.mem_of_getElem? (i := 3) rfl)) dX12_whole_27 ?_
          refine lv_goto (tgt := 34) hx hb dX12_whole_30 (by decide) ?_
          exact J34 (100 : Int64) H _ ls h  hP hD hS (lv_sub hl [0, 2] rfl)
  exact L4 FU (0 : Int32) (1 : Int64) s.heap _ ls h  hP hD hS (lv_sub hl [0, 1, 2] rfl)
theorem dX12_common_0 : decode cX12_common 0 = .ok (.lload_n 0, 1) := by decide +kernel
theorem dX12_common_1 : decode cX12_common 1 = .ok (.lstore 4, 2) := by decide +kernel
theorem dX12_common_10 : decode cX12_common 10 = .ok (.ifCond .eq 21, 3) := by decide +kernel
theorem dX12_common_13 : decode cX12_common 13 = .ok (.lload 4, 2) := by decide +kernel
theorem dX12_common_15 : decode cX12_common 15 = .ok (.lload 6, 2) := by decide +kernel
theorem dX12_common_17 : decode cX12_common 17 = .ok (.lrem, 1) := by decide +kernel
theorem dX12_common_18 : decode cX12_common 18 = .ok (.lstore 8, 2) := by decide +kernel
theorem dX12_common_20 : decode cX12_common 20 = .ok (.lload 6, 2) := by decide +kernel
theorem dX12_common_22 : decode cX12_common 22 = .ok (.lstore 4, 2) := by decide +kernel
theorem dX12_common_24 : decode cX12_common 24 = .ok (.lload 8, 2) := by decide +kernel
theorem dX12_common_26 : decode cX12_common 26 = .ok (.lstore 6, 2) := by decide +kernel
theorem dX12_common_28 : decode cX12_common 28 = .ok (.goto (-22), 3) := by decide +kernel
theorem dX12_common_3 : decode cX12_common 3 = .ok (.lload_n 2, 1) := by decide +kernel
theorem dX12_common_31 : decode cX12_common 31 = .ok (.lload 4, 2) := by decide +kernel
theorem dX12_common_33 : decode cX12_common 33 = .ok (.lreturn, 1) := by decide +kernel
theorem dX12_common_4 : decode cX12_common 4 = .ok (.lstore 6, 2) := by decide +kernel
theorem dX12_common_6 : decode cX12_common 6 = .ok (.lload 6, 2) := by decide +kernel
theorem dX12_common_8 : decode cX12_common 8 = .ok (.lconst 0, 1) := by decide +kernel
theorem dX12_common_9 : decode cX12_common 9 = .ok (.lcmp, 1) := by decide +kernel
def vfX12_common : List Cond := .code yX12_common cX12_common 10 (some .long) :: ([])
theorem qfX12_common : Good vfX12_common := gd_cons (by decide +kernel) (gd_dec (by decide +kernel) : Good [])
set_option maxHeartbeats 2000000 in
set_option maxRecDepth 100000 in
theorem kfX12_common (l : Launch) (dC : Nat → ClassId) (dI : Nat → Nat → Nat) (k0 : Int64) (k1 : Int64) (sz : Nat) (out : Int64) (h : f_X12_common k0 k1 = some out) : Met l yX12_common vfX12_common ({ frames := 0, cells := 0, slots := 0, locals := 0 }) (PC (dC, dI) [.long k0, .long k1] sz [] ([])) (va_Ql (S := Unit) (fun (r : Int64) _ => r = out) (fun _ t => BC (dC, dI) (va_A [] sz) [] [] t) (va_A [] sz)) 0 0 (va_A [] sz) := by
  refine Met.ofW (cc := cX12_common) (maxL := 10) (ret := (some .long)) (by decide) rfl ?_
  intro p e s m args below meth c s₁ B0 hml hv
  obtain ⟨rfl, hsz, hP, hK, hD0, hN⟩ := hv
  have hx := B0.exec
  have hb := B0.bytes
  have hr := B0.returns
  have hts := atoms_spec (ws := vfX12_common) B0.pre
  have hown : s.vm.findClass RX12 = some m.cls := findClass_of_methodNamed B0.named
  have hlocks := B0.notSynchronized
  subst hsz
  have hD := hD0.self (sz := s.heap.size)
  generalize hAe : va_A [] s.heap.size = A at hD ⊢
  have hA : ∀ q : Nat, s.heap.size ≤ q → A q := fun q h => by rw [← hAe]; exact Or.inr h
  have hS : va_S A s.heap s.heap [] := va_S.rf
  have hP : va_P (dC, dI) vwCl [] s.heap := hP
  have hl := lv_entry ([.long k0, .long k1]) (n := 10) (Nat.le_of_ble_eq_true rfl)
  rw [lg_entry_eq]
  generalize (lg_sl ([.long k0, .long k1]) ++ List.replicate (10 - (lg_sl ([.long k0, .long k1])).length) Slot.unset).toArray = ls at hl ⊢
  have hl : lv_has ls 10 [(0, .long k0), (2, .long k1)] := hl
  refine W_q (fun QQ hQQ => ?_)
  rw [f_X12_common] at h
  refine lv_lload_n hx hb dX12_common_0 rfl (lv_at hl 0 rfl) ?_
  refine lv_lstore (lv' := [(4, .long k0), (0, .long k0), (2, .long k1)]) hx hb dX12_common_1 hl (by decide) rfl (fun ls hl => ?_)
  refine lv_lload_n hx hb dX12_common_3 rfl (lv_at hl 2 rfl) ?_
  refine lv_lstore (lv' := [(6, .long k1), (4, .long k0), (0, .long k0), (2, .long k1)]) hx hb dX12_common_4 hl (by decide) rfl (fun ls hl => ?_)
  have L6 : ∀ (n6 : Nat) (v6_l6 : Int64) (v6_l4 : Int64) (H : Heap) (locs : List Loc) (ls : Array Slot), f_X12_common_L6 n6 v6_l6 v6_l4 = some out → va_P (dC, dI) vwCl [] H → va_D A [] → va_S A s.heap H locs → lv_has ls 10 [(6, .long v6_l6), (4, .long v6_l4)] → W p l e (headSpec vfX12_common { frames := 0, cells := 0, slots := 0, locals := 0 }).room s m ([.long k0, .long k1]).toArray below meth c H locs 0 0 QQ (F0 m 6 ls []) := by
    intro n6
    induction n6 with
    | zero =>
      intro v6_l6 v6_l4 H locs ls h  _ _ _ _
      rw [f_X12_common_L6] at h
      cases h
    | succ n6 ih6 =>
      intro v6_l6 v6_l4 H locs ls h  hP hD hS hl
      rw [f_X12_common_L6] at h
      refine lv_lload hx hb dX12_common_6 (lv_at hl 0 rfl) ?_
      refine lv_lconst (v := 0) hx hb dX12_common_8 (by decide) ?_
      refine W.lcmp hx hb dX12_common_9 ?_
      refine lv_if_eq (tgt := 31) hx hb dX12_common_10 (by decide) (fun c10 => ?_) (fun c10 => ?_)
      · have h := (if_pos c10).symm.trans h
        refine lv_lload hx hb dX12_common_31 (lv_at hl 1 rfl) ?_
        obtain rfl := Option.some.inj h
        have hP9 := hP.sub (ws' := []) [] rfl
        have hD9 := hD.sub (ws' := []) [] (by decide) rfl
        have hK9 := hK.sub (tys' := []) [] rfl
        rw [hQQ]
        exact W.lret (v := v6_l4) hx hb hr (fun t ht hW => ⟨⟨v6_l4, (), rfl, rfl, by rw [ht]; exact hP9, va_K.moved hW.alike hK9, hD9⟩, hS.F ht⟩) hS.2.2 dX12_common_33
      · have h := (if_neg c10).symm.trans h
        refine lv_lload hx hb dX12_common_13 (lv_at hl 1 rfl) ?_
        refine lv_lload hx hb dX12_common_15 (lv_at hl 0 rfl) ?_
        obtain ⟨hg17, h⟩ := gZl_of h
        refine lv_lrem hx hb dX12_common_17 hg17 ?_
        refine lv_lstore (lv' := [(8, .long (v6_l4 - v6_l4 / v6_l6 * v6_l6)), (6, .long v6_l6), (4, .long v6_l4)]) hx hb dX12_common_18 hl (by decide) rfl (fun ls hl => ?_)
        refine lv_lload hx hb dX12_common_20 (lv_at hl 1 rfl) ?_
        refine lv_lstore (lv' := [(4, .long v6_l6), (8, .long (v6_l4 - v6_l4 / v6_l6 * v6_l6)), (6, .long v6_l6)]) hx hb dX12_common_22 hl (by decide) rfl (fun ls hl => ?_)
        refine lv_lload hx hb dX12_common_24 (lv_at hl 1 rfl) ?_
        refine lv_lstore (lv' := [(6, .long (v6_l4 - v6_l4 / v6_l6 * v6_l6)), (4, .long v6_l6), (8, .long (v6_l4 - v6_l4 / v6_l6 * v6_l6))]) hx hb dX12_common_26 hl (by decide) rfl (fun ls hl => ?_)
        refine lv_goto (tgt := 6) hx hb dX12_common_28 (by decide) ?_
        exact ih6 (v6_l4 - v6_l4 / v6_l6 * v6_l6) v6_l6 H _ ls h  hP hD hS (lv_sub hl [0, 1] rfl)
  exact L6 FU k1 k0 s.heap _ ls h  hP hD hS (lv_sub hl [0, 1] rfl)
theorem dX12_fraction_0 : decode cX12_fraction 0 = .ok (.aload_n 0, 1) := by decide +kernel
theorem dX12_fraction_1 : decode cX12_fraction 1 = .ok (.iconst 0, 1) := by decide +kernel
theorem dX12_fraction_11 : decode cX12_fraction 11 = .ok (.lload_n 3, 1) := by decide +kernel
theorem dX12_fraction_12 : decode cX12_fraction 12 = .ok (.goto 4, 3) := by decide +kernel
theorem dX12_fraction_15 : decode cX12_fraction 15 = .ok (.lload_n 1, 1) := by decide +kernel
theorem dX12_fraction_16 : decode cX12_fraction 16 = .ok (.lload_n 1, 1) := by decide +kernel
theorem dX12_fraction_17 : decode cX12_fraction 17 = .ok (.lload_n 3, 1) := by decide +kernel
theorem dX12_fraction_18 : decode cX12_fraction 18 = .ok (.invokestatic 49, 3) := by decide +kernel
theorem dX12_fraction_2 : decode cX12_fraction 2 = .ok (.invokevirtual 46, 3) := by decide +kernel
theorem dX12_fraction_21 : decode cX12_fraction 21 = .ok (.ldiv, 1) := by decide +kernel
theorem dX12_fraction_22 : decode cX12_fraction 22 = .ok (.lreturn, 1) := by decide +kernel
theorem dX12_fraction_5 : decode cX12_fraction 5 = .ok (.pop, 1) := by decide +kernel
theorem dX12_fraction_6 : decode cX12_fraction 6 = .ok (.iload 5, 2) := by decide +kernel
theorem dX12_fraction_8 : decode cX12_fraction 8 = .ok (.ifCond .eq 7, 3) := by decide +kernel
def vfX12_fraction : List Cond := List.cons (.code yX12_fraction cX12_fraction 6 (some .long)) (apW [.methodLink RX12 46 yX12_good, .instanceMethod yX12_good, .selects RX12 yX12_good yX12_good, .initialized RX12, .methodLink RX12 49 yX12_common, .static yX12_common] (apW vfX12_good (vfX12_common)))
theorem qfX12_fraction : Good vfX12_fraction := gd_cons (by decide +kernel) (gd_app (gd_dec (by decide +kernel) : Good [.methodLink RX12 46 yX12_good, .instanceMethod yX12_good, .selects RX12 yX12_good yX12_good, .initialized RX12, .methodLink RX12 49 yX12_common, .static yX12_common]) (gd_app qfX12_good qfX12_common))
theorem gfX12_fraction_0 : GoodIn vfX12_fraction (wsV RX12 46 RX12 yX12_good vfX12_good) := goodIn_app (goodIn_r [.methodLink RX12 46 yX12_good, .instanceMethod yX12_good, .selects RX12 yX12_good yX12_good, .initialized RX12] [1, 2, 3, 4] rfl (by decide +kernel)) (goodIn_m (fun _ h => (List.mem_cons_of_mem _ (List.mem_append_right _ (List.mem_append_left _ h)))) qfX12_good)
theorem gfX12_fraction_1 : GoodIn vfX12_fraction (va_wsS RX12 49 yX12_common vfX12_common) := goodIn_app (goodIn_r [.methodLink RX12 49 yX12_common, .static yX12_common, .initialized RX12] [5, 6, 4] rfl (by decide +kernel)) (goodIn_m (fun _ h => (List.mem_cons_of_mem _ (List.mem_append_right _ (List.mem_append_right _ h)))) qfX12_common)
set_option maxHeartbeats 2000000 in
set_option maxRecDepth 100000 in
theorem kfX12_fraction (l : Launch) (dC : Nat → ClassId) (dI : Nat → Nat → Nat) (a0 : Nat) (k1 : Int64) (k2 : Int64) (k3 : Int32) (m_t : TX12_t) (g5 : Value) (g6 : Value) (g7 : Value) (g8 : Value) (g9 : Value) (g10 : Value) (g11 : Value) (g12 : Value) (g13 : Value) (g14 : Value) (g15 : Value) (g16 : Value) (g17 : Value) (g18 : Value) (g19 : Value) (g20 : Value) (g21 : Value) (g22 : Value) (g23 : Value) (g24 : Value) (g25 : Value) (g26 : Value) (g27 : Value) (g28 : Value) (g29 : Value) (g30 : Value) (g31 : Value) (sz : Nat) (out : (Int64 × TX12_t)) (h : f_X12_fraction k1 k2 k3 m_t = some out) : Met l yX12_fraction vfX12_fraction ({ frames := 1, cells := 0, slots := 0, locals := 29 }) (PC (dC, dI) [.ref a0, .long k1, .long k2, .int k3] sz ([(a0, .inr (9, [.int m_t.1, .int m_t.2.1, .int m_t.2.2, g5, g6, g7, g8, g9, g10, g11, g12, g13, g14, g15, g16, g17, g18, g19, g20, g21, g22, g23, g24, g25, g26, g27, g28, g29, g30, g31]))]) ([])) (va_Ql (S := Unit) (fun (r : Int64) _ => r = out.1) (fun _ t => BC (dC, dI) (va_A ([(a0, .inr (9, [.int m_t.1, .int m_t.2.1, .int m_t.2.2, g5, g6, g7, g8, g9, g10, g11, g12, g13, g14, g15, g16, g17, g18, g19, g20, g21, g22, g23, g24, g25, g26, g27, g28, g29, g30, g31]))]) sz) ([(a0, .inr (9, [.int out.2.1, .int out.2.2.1, .int out.2.2.2, g5, g6, g7, g8, g9, g10, g11, g12, g13, g14, g15, g16, g17, g18, g19, g20, g21, g22, g23, g24, g25, g26, g27, g28, g29, g30, g31]))]) [] t) (va_A ([(a0, .inr (9, [.int m_t.1, .int m_t.2.1, .int m_t.2.2, g5, g6, g7, g8, g9, g10, g11, g12, g13, g14, g15, g16, g17, g18, g19, g20, g21, g22, g23, g24, g25, g26, g27, g28, g29, g30, g31]))]) sz)) 0 0 (va_A ([(a0, .inr (9, [.int m_t.1, .int m_t.2.1, .int m_t.2.2, g5, g6, g7, g8, g9, g10, g11, g12, g13, g14, g15, g16, g17, g18, g19, g20, g21, g22, g23, g24, g25, g26, g27, g28, g29, g30, g31]))]) sz) := by
  refine Met.ofW (cc := cX12_fraction) (maxL := 6) (ret := (some .long)) (by decide) rfl ?_
  intro p e s m args below meth c s₁ B0 hml hv
  obtain ⟨rfl, hsz, hP, hK, hD0, hN⟩ := hv
  have hx := B0.exec
  have hb := B0.bytes
  have hr := B0.returns
  have hts := atoms_spec (ws := vfX12_fraction) B0.pre
  have hown : s.vm.findClass RX12 = some m.cls := findClass_of_methodNamed B0.named
  have hlocks := B0.notSynchronized
  subst hsz
  have hD := hD0.self (sz := s.heap.size)
  generalize hAe : va_A ([(a0, .inr (9, [.int m_t.1, .int m_t.2.1, .int m_t.2.2, g5, g6, g7, g8, g9, g10, g11, g12, g13, g14, g15, g16, g17, g18, g19, g20, g21, g22, g23, g24, g25, g26, g27, g28, g29, g30, g31]))]) s.heap.size = A at hD ⊢
  have hA : ∀ q : Nat, s.heap.size ≤ q → A q := fun q h => by rw [← hAe]; exact Or.inr h
  have hS : va_S A s.heap s.heap [] := va_S.rf
  have hP : va_P (dC, dI) vwCl ([(a0, .inr (9, [.int m_t.1, .int m_t.2.1, .int m_t.2.2, g5, g6, g7, g8, g9, g10, g11, g12, g13, g14, g15, g16, g17, g18, g19, g20, g21, g22, g23, g24, g25, g26, g27, g28, g29, g30, g31]))]) s.heap := hP
  have hl := lv_entry ([.ref a0, .long k1, .long k2, .int k3]) (n := 6) (Nat.le_of_ble_eq_true rfl)
  rw [lg_entry_eq]
  generalize (lg_sl ([.ref a0, .long k1, .long k2, .int k3]) ++ List.replicate (6 - (lg_sl ([.ref a0, .long k1, .long k2, .int k3])).length) Slot.unset).toArray = ls at hl ⊢
  have hl : lv_has ls 6 [(0, .ref a0), (1, .long k1), (3, .long k2), (5, .int k3)] := hl
  refine W_q (fun QQ hQQ => ?_)
  rw [f_X12_fraction] at h
  refine lv_aload_n hx hb dX12_fraction_0 rfl (lv_at hl 0 rfl) ?_
  refine lv_iconst (v := 0) hx hb dX12_fraction_1 (by decide) ?_
  obtain ⟨o2, eo2⟩ : ∃ o, o = f_X12_good (0 : Int32) m_t := ⟨_, rfl⟩
  have h := nm_of h o2 eo2
  refine cl_i (wc := ([(a0, .inr (9, [.int m_t.1, .int m_t.2.1, .int m_t.2.2, g5, g6, g7, g8, g9, g10, g11, g12, g13, g14, g15, g16, g17, g18, g19, g20, g21, g22, g23, g24, g25, g26, g27, g28, g29, g30, g31]))])) (wr := []) (va_runV (As := [.int 0]) (rest := []) ⟨hx, hb, hml, hown, hts⟩ (kfX12_good l dC dI a0 (0 : Int32) m_t (g5) (g6) (g7) (g8) (g9) (g10) (g11) (g12) (g13) (g14) (g15) (g16) (g17) (g18) (g19) (g20) (g21) (g22) (g23) (g24) (g25) (g26) (g27) (g28) (g29) (g30) (g31) s.heap.size o2 eo2.symm) (cwV 1 hts gfX12_fraction_0 rfl rfl rfl (by decide +kernel) ⟨(Nat.le_of_ble_eq_true rfl), (Nat.le_of_ble_eq_true rfl)⟩) (PV (hP.sub (ws' := ([(a0, .inr (9, [.int m_t.1, .int m_t.2.1, .int m_t.2.2, g5, g6, g7, g8, g9, g10, g11, g12, g13, g14, g15, g16, g17, g18, g19, g20, g21, g22, g23, g24, g25, g26, g27, g28, g29, g30, g31]))])) [0] rfl) (hK.sub (tys' := ([])) [] rfl) (hD.sub (ws' := ([(a0, .inr (9, [.int m_t.1, .int m_t.2.1, .int m_t.2.2, g5, g6, g7, g8, g9, g10, g11, g12, g13, g14, g15, g16, g17, g18, g19, g20, g21, g22, g23, g24, g25, g26, g27, g28, g29, g30, g31]))])) [0] (by decide) rfl) hN 0 rfl rfl) rfl rfl hl.1 rfl (lv_room (Nat.le_of_ble_eq_true rfl)) dX12_fraction_2 ⟨(Nat.le_of_ble_eq_true rfl), (Nat.le_of_ble_eq_true rfl)⟩) hP hD hK hS hA [0] [] rfl rfl (by decide) (by decide) (fun r2 _ H locs hw hP hD _ hS => ?_)
  obtain rfl := hw
  have hP : va_P (dC, dI) vwCl ([(a0, .inr (9, [.int o2.2.1, .int o2.2.2.1, .int o2.2.2.2, g5, g6, g7, g8, g9, g10, g11, g12, g13, g14, g15, g16, g17, g18, g19, g20, g21, g22, g23, g24, g25, g26, g27, g28, g29, g30, g31]))]) H := hP
  have hD : va_D A ([(a0, .inr (9, [.int o2.2.1, .int o2.2.2.1, .int o2.2.2.2, g5, g6, g7, g8, g9, g10, g11, g12, g13, g14, g15, g16, g17, g18, g19, g20, g21, g22, g23, g24, g25, g26, g27, g28, g29, g30, g31]))]) := hD
  refine lv_pop hx hb dX12_fraction_5 rfl ?_
  refine lv_iload hx hb dX12_fraction_6 (lv_at hl 3 rfl) ?_
  have J16 : ∀ (v16_t0 : Int64) (H : Heap) (locs : List Loc) (ls : Array Slot), f_X12_fraction_J16 k1 k2 o2 v16_t0 = some out → va_P (dC, dI) vwCl ([(a0, .inr (9, [.int o2.2.1, .int o2.2.2.1, .int o2.2.2.2, g5, g6, g7, g8, g9, g10, g11, g12, g13, g14, g15, g16, g17, g18, g19, g20, g21, g22, g23, g24, g25, g26, g27, g28, g29, g30, g31]))]) H → va_D A ([(a0, .inr (9, [.int o2.2.1, .int o2.2.2.1, .int o2.2.2.2, g5, g6, g7, g8, g9, g10, g11, g12, g13, g14, g15, g16, g17, g18, g19, g20, g21, g22, g23, g24, g25, g26, g27, g28, g29, g30, g31]))]) → va_S A s.heap H locs → lv_has ls 6 [(1, .long k1), (3, .long k2)] → W p l e (headSpec vfX12_fraction { frames := 1, cells := 0, slots := 0, locals := 29 }).room s m ([.ref a0, .long k1, .long k2, .int k3]).toArray below meth c H locs 0 0 QQ (F0 m 16 ls [.long v16_t0]) := by
    intro v16_t0 H locs ls h  hP hD hS hl
    rw [f_X12_fraction_J16] at h
    refine lv_lload_n hx hb dX12_fraction_16 rfl (lv_at hl 0 rfl) ?_
    refine lv_lload_n hx hb dX12_fraction_17 rfl (lv_at hl 1 rfl) ?_
    obtain ⟨o18, eo18, h⟩ := bd_of h
    refine cl_l (wc := []) (wr := ([(a0, .inr (9, [.int o2.2.1, .int o2.2.2.1, .int o2.2.2.2, g5, g6, g7, g8, g9, g10, g11, g12, g13, g14, g15, g16, g17, g18, g19, g20, g21, g22, g23, g24, g25, g26, g27, g28, g29, g30, g31]))])) (va_runS (As := [.long k1, .long k2]) (rest := [.long v16_t0]) ⟨hx, hb, hml, hown, hts⟩ (kfX12_common l dC dI k1 k2 H.size o18 eo18) (va_cwS 2 hts gfX12_fraction_1 rfl rfl rfl (by decide +kernel) ⟨(Nat.le_of_ble_eq_true rfl), (Nat.le_of_ble_eq_true rfl)⟩) (PS (hP.sub (ws' := []) [] rfl) (hK.sub (tys' := ([])) [] rfl) (hD.sub (ws' := []) [] (by decide) rfl) hN) rfl rfl hl.1 rfl (lv_room (Nat.le_of_ble_eq_true rfl)) dX12_fraction_18 ⟨(Nat.le_of_ble_eq_true rfl), (Nat.le_of_ble_eq_true rfl)⟩) hP hD hK hS hA [] [0] rfl rfl (by decide) (by decide) (fun r18 _ H locs hw hP hD _ hS => ?_)
    obtain rfl := hw.symm
    have hP : va_P (dC, dI) vwCl ([(a0, .inr (9, [.int o2.2.1, .int o2.2.2.1, .int o2.2.2.2, g5, g6, g7, g8, g9, g10, g11, g12, g13, g14, g15, g16, g17, g18, g19, g20, g21, g22, g23, g24, g25, g26, g27, g28, g29, g30, g31]))]) H := hP
    have hD : va_D A ([(a0, .inr (9, [.int o2.2.1, .int o2.2.2.1, .int o2.2.2.2, g5, g6, g7, g8, g9, g10, g11, g12, g13, g14, g15, g16, g17, g18, g19, g20, g21, g22, g23, g24, g25, g26, g27, g28, g29, g30, g31]))]) := hD
    obtain ⟨hg21, h⟩ := gZl_of h
    refine lv_ldiv hx hb dX12_fraction_21 hg21 ?_
    obtain rfl := Option.some.inj h
    have hP9 := hP.sub (ws' := ([(a0, .inr (9, [.int o2.2.1, .int o2.2.2.1, .int o2.2.2.2, g5, g6, g7, g8, g9, g10, g11, g12, g13, g14, g15, g16, g17, g18, g19, g20, g21, g22, g23, g24, g25, g26, g27, g28, g29, g30, g31]))])) [0] rfl
    have hD9 := hD.sub (ws' := ([(a0, .inr (9, [.int o2.2.1, .int o2.2.2.1, .int o2.2.2.2, g5, g6, g7, g8, g9, g10, g11, g12, g13, g14, g15, g16, g17, g18, g19, g20, g21, g22, g23, g24, g25, g26, g27, g28, g29, g30, g31]))])) [0] (by decide) rfl
    have hK9 := hK.sub (tys' := []) [] rfl
    rw [hQQ]
    exact W.lret (v := (v16_t0 / o18)) hx hb hr (fun t ht hW => ⟨⟨(v16_t0 / o18), (), rfl, rfl, by rw [ht]; exact hP9, va_K.moved hW.alike hK9, hD9⟩, hS.F ht⟩) hS.2.2 dX12_fraction_22
  refine lv_if_eq (tgt := 15) hx hb dX12_fraction_8 (by decide) (fun c8 => ?_) (fun c8 => ?_)
  · have h := (if_pos c8).symm.trans h
    refine lv_lload_n hx hb dX12_fraction_15 rfl (lv_at hl 1 rfl) ?_
    exact J16 k1 H _ ls h  hP hD hS (lv_sub hl [1, 2] rfl)
  · have h := (if_neg c8).symm.trans h
    refine lv_lload_n hx hb dX12_fraction_11 rfl (lv_at hl 2 rfl) ?_
    refine lv_goto (tgt := 16) hx hb dX12_fraction_12 (by decide) ?_
    exact J16 k2 H _ ls h  hP hD hS (lv_sub hl [1, 2] rfl)
theorem dX12_takes_0 : decode cX12_takes 0 = .ok (.aload_n 0, 1) := by decide +kernel
theorem dX12_takes_1 : decode cX12_takes 1 = .ok (.iconst 0, 1) := by decide +kernel
theorem dX12_takes_11 : decode cX12_takes 11 = .ok (.iload_n 2, 1) := by decide +kernel
theorem dX12_takes_12 : decode cX12_takes 12 = .ok (.iload_n 3, 1) := by decide +kernel
theorem dX12_takes_13 : decode cX12_takes 13 = .ok (.iload 4, 2) := by decide +kernel
theorem dX12_takes_15 : decode cX12_takes 15 = .ok (.invokevirtual 353, 3) := by decide +kernel
theorem dX12_takes_18 : decode cX12_takes 18 = .ok (.istore 6, 2) := by decide +kernel
theorem dX12_takes_2 : decode cX12_takes 2 = .ok (.putfield 36, 3) := by decide +kernel
theorem dX12_takes_20 : decode cX12_takes 20 = .ok (.iload 6, 2) := by decide +kernel
theorem dX12_takes_22 : decode cX12_takes 22 = .ok (.ifCond .le 13, 3) := by decide +kernel
theorem dX12_takes_25 : decode cX12_takes 25 = .ok (.aload_n 0, 1) := by decide +kernel
theorem dX12_takes_26 : decode cX12_takes 26 = .ok (.iload 6, 2) := by decide +kernel
theorem dX12_takes_28 : decode cX12_takes 28 = .ok (.invokevirtual 42, 3) := by decide +kernel
theorem dX12_takes_31 : decode cX12_takes 31 = .ok (.i2l, 1) := by decide +kernel
theorem dX12_takes_32 : decode cX12_takes 32 = .ok (.goto 26, 3) := by decide +kernel
theorem dX12_takes_35 : decode cX12_takes 35 = .ok (.aload_n 0, 1) := by decide +kernel
theorem dX12_takes_36 : decode cX12_takes 36 = .ok (.aload_n 0, 1) := by decide +kernel
theorem dX12_takes_37 : decode cX12_takes 37 = .ok (.iload_n 1, 1) := by decide +kernel
theorem dX12_takes_38 : decode cX12_takes 38 = .ok (.aload_n 0, 1) := by decide +kernel
theorem dX12_takes_39 : decode cX12_takes 39 = .ok (.iload_n 2, 1) := by decide +kernel
theorem dX12_takes_40 : decode cX12_takes 40 = .ok (.iload_n 3, 1) := by decide +kernel
theorem dX12_takes_41 : decode cX12_takes 41 = .ok (.iload 4, 2) := by decide +kernel
theorem dX12_takes_43 : decode cX12_takes 43 = .ok (.invokevirtual 357, 3) := by decide +kernel
theorem dX12_takes_46 : decode cX12_takes 46 = .ok (.invokevirtual 349, 3) := by decide +kernel
theorem dX12_takes_49 : decode cX12_takes 49 = .ok (.aload_n 0, 1) := by decide +kernel
theorem dX12_takes_5 : decode cX12_takes 5 = .ok (.aload_n 0, 1) := by decide +kernel
theorem dX12_takes_50 : decode cX12_takes 50 = .ok (.invokevirtual 360, 3) := by decide +kernel
theorem dX12_takes_53 : decode cX12_takes 53 = .ok (.iload 5, 2) := by decide +kernel
theorem dX12_takes_55 : decode cX12_takes 55 = .ok (.invokevirtual 363, 3) := by decide +kernel
theorem dX12_takes_58 : decode cX12_takes 58 = .ok (.lreturn, 1) := by decide +kernel
theorem dX12_takes_6 : decode cX12_takes 6 = .ok (.aload_n 0, 1) := by decide +kernel
theorem dX12_takes_7 : decode cX12_takes 7 = .ok (.iload_n 1, 1) := by decide +kernel
theorem dX12_takes_8 : decode cX12_takes 8 = .ok (.invokevirtual 320, 3) := by decide +kernel
def vfX12_takes : List Cond := List.cons (.code yX12_takes cX12_takes 7 (some .long)) (apW [.fieldLink RX12 36 "HookPierModel" "thrown" "I", .methodLink RX12 320 yX12_isAnswer, .instanceMethod yX12_isAnswer, .selects RX12 yX12_isAnswer yX12_isAnswer, .initialized RX12, .methodLink RX12 353 yX12_refusesQuestion, .instanceMethod yX12_refusesQuestion, .selects RX12 yX12_refusesQuestion yX12_refusesQuestion, .methodLink RX12 357 yX12_question, .instanceMethod yX12_question, .selects RX12 yX12_question yX12_question, .methodLink RX12 349 yX12_oddsOf, .instanceMethod yX12_oddsOf, .selects RX12 yX12_oddsOf yX12_oddsOf, .methodLink RX12 360 yX12_whole, .instanceMethod yX12_whole, .selects RX12 yX12_whole yX12_whole, .methodLink RX12 363 yX12_fraction, .instanceMethod yX12_fraction, .selects RX12 yX12_fraction yX12_fraction, .methodLink RX12 42 yX12_refused, .instanceMethod yX12_refused, .selects RX12 yX12_refused yX12_refused] (apW wsX120 (apW vfX12_isAnswer (apW vfX12_refusesQuestion (apW vfX12_question (apW vfX12_oddsOf (apW vfX12_whole (apW vfX12_fraction (vfX12_refused)))))))))
theorem ifX12_takes_X12 : ∀ w ∈ wsX120, w ∈ vfX12_takes := fun _ h => (List.mem_cons_of_mem _ (List.mem_append_right _ (List.mem_append_left _ h)))
theorem qfX12_takes : Good vfX12_takes := gd_cons (by decide +kernel) (gd_app (gd_dec (by decide +kernel) : Good [.fieldLink RX12 36 "HookPierModel" "thrown" "I", .methodLink RX12 320 yX12_isAnswer, .instanceMethod yX12_isAnswer, .selects RX12 yX12_isAnswer yX12_isAnswer, .initialized RX12, .methodLink RX12 353 yX12_refusesQuestion, .instanceMethod yX12_refusesQuestion, .selects RX12 yX12_refusesQuestion yX12_refusesQuestion, .methodLink RX12 357 yX12_question, .instanceMethod yX12_question, .selects RX12 yX12_question yX12_question, .methodLink RX12 349 yX12_oddsOf, .instanceMethod yX12_oddsOf, .selects RX12 yX12_oddsOf yX12_oddsOf, .methodLink RX12 360 yX12_whole, .instanceMethod yX12_whole, .selects RX12 yX12_whole yX12_whole, .methodLink RX12 363 yX12_fraction, .instanceMethod yX12_fraction, .selects RX12 yX12_fraction yX12_fraction, .methodLink RX12 42 yX12_refused, .instanceMethod yX12_refused, .selects RX12 yX12_refused yX12_refused]) (gd_app qsX12 (gd_app qfX12_isAnswer (gd_app qfX12_refusesQuestion (gd_app qfX12_question (gd_app qfX12_oddsOf (gd_app qfX12_whole (gd_app qfX12_fraction qfX12_refused))))))))
theorem gfX12_takes_0 : GoodIn vfX12_takes (wsV RX12 320 RX12 yX12_isAnswer vfX12_isAnswer) := goodIn_app (goodIn_r [.methodLink RX12 320 yX12_isAnswer, .instanceMethod yX12_isAnswer, .selects RX12 yX12_isAnswer yX12_isAnswer, .initialized RX12] [2, 3, 4, 5] rfl (by decide +kernel)) (goodIn_m (fun _ h => (List.mem_cons_of_mem _ (List.mem_append_right _ (List.mem_append_right _ (List.mem_append_left _ h))))) qfX12_isAnswer)
theorem gfX12_takes_1 : GoodIn vfX12_takes (wsV RX12 353 RX12 yX12_refusesQuestion vfX12_refusesQuestion) := goodIn_app (goodIn_r [.methodLink RX12 353 yX12_refusesQuestion, .instanceMethod yX12_refusesQuestion, .selects RX12 yX12_refusesQuestion yX12_refusesQuestion, .initialized RX12] [6, 7, 8, 5] rfl (by decide +kernel)) (goodIn_m (fun _ h => (List.mem_cons_of_mem _ (List.mem_append_right _ (List.mem_append_right _ (List.mem_append_right _ (List.mem_append_left _ h)))))) qfX12_refusesQuestion)
theorem gfX12_takes_2 : GoodIn vfX12_takes (wsV RX12 357 RX12 yX12_question vfX12_question) := goodIn_app (goodIn_r [.methodLink RX12 357 yX12_question, .instanceMethod yX12_question, .selects RX12 yX12_question yX12_question, .initialized RX12] [9, 10, 11, 5] rfl (by decide +kernel)) (goodIn_m (fun _ h => (List.mem_cons_of_mem _ (List.mem_append_right _ (List.mem_append_right _ (List.mem_append_right _ (List.mem_append_right _ (List.mem_append_left _ h))))))) qfX12_question)
theorem gfX12_takes_3 : GoodIn vfX12_takes (wsV RX12 349 RX12 yX12_oddsOf vfX12_oddsOf) := goodIn_app (goodIn_r [.methodLink RX12 349 yX12_oddsOf, .instanceMethod yX12_oddsOf, .selects RX12 yX12_oddsOf yX12_oddsOf, .initialized RX12] [12, 13, 14, 5] rfl (by decide +kernel)) (goodIn_m (fun _ h => (List.mem_cons_of_mem _ (List.mem_append_right _ (List.mem_append_right _ (List.mem_append_right _ (List.mem_append_right _ (List.mem_append_right _ (List.mem_append_left _ h)))))))) qfX12_oddsOf)
theorem gfX12_takes_4 : GoodIn vfX12_takes (wsV RX12 360 RX12 yX12_whole vfX12_whole) := goodIn_app (goodIn_r [.methodLink RX12 360 yX12_whole, .instanceMethod yX12_whole, .selects RX12 yX12_whole yX12_whole, .initialized RX12] [15, 16, 17, 5] rfl (by decide +kernel)) (goodIn_m (fun _ h => (List.mem_cons_of_mem _ (List.mem_append_right _ (List.mem_append_right _ (List.mem_append_right _ (List.mem_append_right _ (List.mem_append_right _ (List.mem_append_right _ (List.mem_append_left _ h))))))))) qfX12_whole)
theorem gfX12_takes_5 : GoodIn vfX12_takes (wsV RX12 363 RX12 yX12_fraction vfX12_fraction) := goodIn_app (goodIn_r [.methodLink RX12 363 yX12_fraction, .instanceMethod yX12_fraction, .selects RX12 yX12_fraction yX12_fraction, .initialized RX12] [18, 19, 20, 5] rfl (by decide +kernel)) (goodIn_m (fun _ h => (List.mem_cons_of_mem _ (List.mem_append_right _ (List.mem_append_right _ (List.mem_append_right _ (List.mem_append_right _ (List.mem_append_right _ (List.mem_append_right _ (List.mem_append_right _ (List.mem_append_left _ h)))))))))) qfX12_fraction)
theorem gfX12_takes_6 : GoodIn vfX12_takes (wsV RX12 42 RX12 yX12_refused vfX12_refused) := goodIn_app (goodIn_r [.methodLink RX12 42 yX12_refused, .instanceMethod yX12_refused, .selects RX12 yX12_refused yX12_refused, .initialized RX12] [21, 22, 23, 5] rfl (by decide +kernel)) (goodIn_m (fun _ h => (List.mem_cons_of_mem _ (List.mem_append_right _ (List.mem_append_right _ (List.mem_append_right _ (List.mem_append_right _ (List.mem_append_right _ (List.mem_append_right _ (List.mem_append_right _ (List.mem_append_right _ h)))))))))) qfX12_refused)
set_option maxHeartbeats 2000000 in
set_option maxRecDepth 100000 in
theorem kfX12_takes (l : Launch) (dC : Nat → ClassId) (dI : Nat → Nat → Nat) (a0 : Nat) (k1 : Int32) (k2 : Int32) (k3 : Int32) (k4 : Int32) (k5 : Int32) (a6 : Nat) (a7 : Nat) (uq : Nat → Nat) (kq : Nat → ClassId) (m_t : TX12_t) (m_v : TX12_v) (g12 : Value) (g13 : Value) (g14 : Value) (g15 : Value) (g16 : Value) (g17 : Value) (g18 : Value) (g19 : Value) (g20 : Value) (g21 : Value) (g22 : Value) (g23 : Value) (g24 : Value) (g25 : Value) (g26 : Value) (g27 : Value) (g28 : Value) (g29 : Value) (g30 : Value) (g31 : Value) (g32 : Value) (g33 : Value) (g34 : Value) (g35 : Value) (g36 : Value) (q_q : TX11_q) (cB38 : ClassId) (sz : Nat) (out : (Int64 × TX12_t)) (h : f_X12_takes k1 k2 k3 k4 k5 m_t m_v q_q = some out) : Met l yX12_takes vfX12_takes ({ frames := 5, cells := 0, slots := 0, locals := 118 }) (PC (dC, dI) [.ref a0, .int k1, .int k2, .int k3, .int k4, .int k5] sz ((a0, .inr (9, [.int m_t.1, .int m_t.2.1, .int m_t.2.2, .ref a6, g12, g13, g14, g15, g16, g17, g18, g19, g20, g21, g22, .ref a7, g23, g24, g25, g26, g27, g28, g29, g30, g31, g32, g33, g34, g35, g36])) :: bX11 a6 uq kq q_q ([(a7, .inl (cB38, 26, .inl m_v))])) (tX11 kq ((cB38, .int) :: []))) (va_Ql (S := Unit) (fun (r : Int64) _ => r = out.1) (fun _ t => BC (dC, dI) (va_A ((a0, .inr (9, [.int m_t.1, .int m_t.2.1, .int m_t.2.2, .ref a6, g12, g13, g14, g15, g16, g17, g18, g19, g20, g21, g22, .ref a7, g23, g24, g25, g26, g27, g28, g29, g30, g31, g32, g33, g34, g35, g36])) :: bX11 a6 uq kq q_q ([(a7, .inl (cB38, 26, .inl m_v))])) sz) ((a0, .inr (9, [.int out.2.1, .int out.2.2.1, .int out.2.2.2, .ref a6, g12, g13, g14, g15, g16, g17, g18, g19, g20, g21, g22, .ref a7, g23, g24, g25, g26, g27, g28, g29, g30, g31, g32, g33, g34, g35, g36])) :: bX11 a6 uq kq q_q ([(a7, .inl (cB38, 26, .inl m_v))])) [] t) (va_A ((a0, .inr (9, [.int m_t.1, .int m_t.2.1, .int m_t.2.2, .ref a6, g12, g13, g14, g15, g16, g17, g18, g19, g20, g21, g22, .ref a7, g23, g24, g25, g26, g27, g28, g29, g30, g31, g32, g33, g34, g35, g36])) :: bX11 a6 uq kq q_q ([(a7, .inl (cB38, 26, .inl m_v))])) sz)) 0 0 (va_A ((a0, .inr (9, [.int m_t.1, .int m_t.2.1, .int m_t.2.2, .ref a6, g12, g13, g14, g15, g16, g17, g18, g19, g20, g21, g22, .ref a7, g23, g24, g25, g26, g27, g28, g29, g30, g31, g32, g33, g34, g35, g36])) :: bX11 a6 uq kq q_q ([(a7, .inl (cB38, 26, .inl m_v))])) sz) := by
  refine Met.ofW (cc := cX12_takes) (maxL := 7) (ret := (some .long)) (by decide) rfl ?_
  intro p e s m args below meth c s₁ B0 hml hv
  obtain ⟨rfl, hsz, hP, hK, hD0, hN⟩ := hv
  have hx := B0.exec
  have hb := B0.bytes
  have hr := B0.returns
  have hts := atoms_spec (ws := vfX12_takes) B0.pre
  have hown : s.vm.findClass RX12 = some m.cls := findClass_of_methodNamed B0.named
  have hlocks := B0.notSynchronized
  subst hsz
  have hD := hD0.self (sz := s.heap.size)
  generalize hAe : va_A ((a0, .inr (9, [.int m_t.1, .int m_t.2.1, .int m_t.2.2, .ref a6, g12, g13, g14, g15, g16, g17, g18, g19, g20, g21, g22, .ref a7, g23, g24, g25, g26, g27, g28, g29, g30, g31, g32, g33, g34, g35, g36])) :: bX11 a6 uq kq q_q ([(a7, .inl (cB38, 26, .inl m_v))])) s.heap.size = A at hD ⊢
  have hA : ∀ q : Nat, s.heap.size ≤ q → A q := fun q h => by rw [← hAe]; exact Or.inr h
  have hS : va_S A s.heap s.heap [] := va_S.rf
  have hP : va_P (dC, dI) vwCl ((a0, .inr (9, [.int m_t.1, .int m_t.2.1, .int m_t.2.2, .ref a6, g12, g13, g14, g15, g16, g17, g18, g19, g20, g21, g22, .ref a7, g23, g24, g25, g26, g27, g28, g29, g30, g31, g32, g33, g34, g35, g36])) :: bX11 a6 uq kq q_q ([(a7, .inl (cB38, 26, .inl m_v))])) s.heap := hP
  have hl := lv_entry ([.ref a0, .int k1, .int k2, .int k3, .int k4, .int k5]) (n := 7) (Nat.le_of_ble_eq_true rfl)
  rw [lg_entry_eq]
  generalize (lg_sl ([.ref a0, .int k1, .int k2, .int k3, .int k4, .int k5]) ++ List.replicate (7 - (lg_sl ([.ref a0, .int k1, .int k2, .int k3, .int k4, .int k5])).length) Slot.unset).toArray = ls at hl ⊢
  have hl : lv_has ls 7 [(0, .ref a0), (1, .int k1), (2, .int k2), (3, .int k3), (4, .int k4), (5, .int k5)] := hl
  refine W_q (fun QQ hQQ => ?_)
  rw [f_X12_takes] at h
  refine lv_aload_n hx hb dX12_takes_0 rfl (lv_at hl 0 rfl) ?_
  refine lv_iconst (v := 0) hx hb dX12_takes_1 (by decide) ?_
  refine va_put (D := (dC, dI)) (ci := 9) (v := .int 0) (ty := .int) (C := RX12) (T := TX12) (N := 30) hx hb hts ifX12_takes_X12 tyX12 tyX12_ok nmX12 hown hK hP hD hS 0 rfl rfl 0 (by decide) (hts (.fieldLink RX12 36 "HookPierModel" "thrown" "I") (List.mem_of_getElem? (i := 1) rfl)) (fun _ h9 => h9) rfl (by decide +kernel) rfl rfl (Nat.le_of_ble_eq_true rfl) dX12_takes_2 (fun H locs hP hD hS => ?_)
  have hP : va_P (dC, dI) vwCl ((a0, .inr (9, [.int 0, .int m_t.2.1, .int m_t.2.2, .ref a6, g12, g13, g14, g15, g16, g17, g18, g19, g20, g21, g22, .ref a7, g23, g24, g25, g26, g27, g28, g29, g30, g31, g32, g33, g34, g35, g36])) :: bX11 a6 uq kq q_q ([(a7, .inl (cB38, 26, .inl m_v))])) H := hP
  have hD : va_D A ((a0, .inr (9, [.int 0, .int m_t.2.1, .int m_t.2.2, .ref a6, g12, g13, g14, g15, g16, g17, g18, g19, g20, g21, g22, .ref a7, g23, g24, g25, g26, g27, g28, g29, g30, g31, g32, g33, g34, g35, g36])) :: bX11 a6 uq kq q_q ([(a7, .inl (cB38, 26, .inl m_v))])) := hD
  refine lv_aload_n hx hb dX12_takes_5 rfl (lv_at hl 0 rfl) ?_
  refine lv_aload_n hx hb dX12_takes_6 rfl (lv_at hl 0 rfl) ?_
  refine lv_iload_n hx hb dX12_takes_7 rfl (lv_at hl 1 rfl) ?_
  obtain ⟨o8, eo8⟩ : ∃ o, o = f_X12_isAnswer k1 q_q := ⟨_, rfl⟩
  have h := nm_of h o8 eo8
  refine cl_i (wc := ((a0, .inr (9, [.int 0, .int m_t.2.1, .int m_t.2.2, .ref a6, g12, g13, g14, g15, g16, g17, g18, g19, g20, g21, g22, .ref a7, g23, g24, g25, g26, g27, g28, g29, g30, g31, g32, g33, g34, g35, g36])) :: bX11 a6 uq kq q_q [])) (wr := ([(a7, .inl (cB38, 26, .inl m_v))])) (va_runV (As := [.int k1]) (rest := [.ref a0]) ⟨hx, hb, hml, hown, hts⟩ (kfX12_isAnswer l dC dI a0 k1 a6 uq kq (.int 0) (.int m_t.2.1) (.int m_t.2.2) (g12) (g13) (g14) (g15) (g16) (g17) (g18) (g19) (g20) (g21) (g22) (.ref a7) (g23) (g24) (g25) (g26) (g27) (g28) (g29) (g30) (g31) (g32) (g33) (g34) (g35) (g36) q_q H.size o8 eo8.symm) (cwV 1 hts gfX12_takes_0 rfl rfl rfl (by decide +kernel) ⟨(Nat.le_of_ble_eq_true rfl), (Nat.le_of_ble_eq_true rfl)⟩) (PV (hP.sub (ws' := ((a0, .inr (9, [.int 0, .int m_t.2.1, .int m_t.2.2, .ref a6, g12, g13, g14, g15, g16, g17, g18, g19, g20, g21, g22, .ref a7, g23, g24, g25, g26, g27, g28, g29, g30, g31, g32, g33, g34, g35, g36])) :: bX11 a6 uq kq q_q [])) [0, 1, 2, 3, 4, 5, 6, 7, 8, 9, 10, 11, 12, 13, 14, 15] rfl) (hK.sub (tys' := (tX11 kq ([]))) [0, 1, 2, 3, 4, 5, 6, 7, 8, 9, 10, 11, 12, 13] rfl) (hD.sub (ws' := ((a0, .inr (9, [.int 0, .int m_t.2.1, .int m_t.2.2, .ref a6, g12, g13, g14, g15, g16, g17, g18, g19, g20, g21, g22, .ref a7, g23, g24, g25, g26, g27, g28, g29, g30, g31, g32, g33, g34, g35, g36])) :: bX11 a6 uq kq q_q [])) [0, 1, 2, 3, 4, 5, 6, 7, 8, 9, 10, 11, 12, 13, 14, 15] (by decide) rfl) hN 0 rfl rfl) rfl rfl hl.1 rfl (lv_room (Nat.le_of_ble_eq_true rfl)) dX12_takes_8 ⟨(Nat.le_of_ble_eq_true rfl), (Nat.le_of_ble_eq_true rfl)⟩) hP hD hK hS hA [0, 1, 2, 3, 4, 5, 6, 7, 8, 9, 10, 11, 12, 13, 14, 15] [16] rfl rfl (by decide) (by decide) (fun r8 _ H locs hw hP hD _ hS => ?_)
  obtain ⟨hw, br8⟩ := hw
  obtain rfl := hw.symm
  have hP : va_P (dC, dI) vwCl ((a7, .inl (cB38, 26, .inl m_v)) :: (a0, .inr (9, [.int 0, .int m_t.2.1, .int m_t.2.2, .ref a6, g12, g13, g14, g15, g16, g17, g18, g19, g20, g21, g22, .ref a7, g23, g24, g25, g26, g27, g28, g29, g30, g31, g32, g33, g34, g35, g36])) :: bX11 a6 uq kq q_q []) H := hP
  have hD : va_D A ((a7, .inl (cB38, 26, .inl m_v)) :: (a0, .inr (9, [.int 0, .int m_t.2.1, .int m_t.2.2, .ref a6, g12, g13, g14, g15, g16, g17, g18, g19, g20, g21, g22, .ref a7, g23, g24, g25, g26, g27, g28, g29, g30, g31, g32, g33, g34, g35, g36])) :: bX11 a6 uq kq q_q []) := hD
  refine lv_iload_n hx hb dX12_takes_11 rfl (lv_at hl 2 rfl) ?_
  refine lv_iload_n hx hb dX12_takes_12 rfl (lv_at hl 3 rfl) ?_
  refine lv_iload hx hb dX12_takes_13 (lv_at hl 4 rfl) ?_
  obtain ⟨o15, eo15⟩ : ∃ o, o = f_X12_refusesQuestion o8 k2 k3 k4 q_q := ⟨_, rfl⟩
  have h := nm_of h o15 eo15
  refine cl_i (wc := ((a0, .inr (9, [.int 0, .int m_t.2.1, .int m_t.2.2, .ref a6, g12, g13, g14, g15, g16, g17, g18, g19, g20, g21, g22, .ref a7, g23, g24, g25, g26, g27, g28, g29, g30, g31, g32, g33, g34, g35, g36])) :: bX11 a6 uq kq q_q [])) (wr := ([(a7, .inl (cB38, 26, .inl m_v))])) (va_runV (As := [.int o8, .int k2, .int k3, .int k4]) (rest := []) ⟨hx, hb, hml, hown, hts⟩ (kfX12_refusesQuestion l dC dI a0 o8 k2 k3 k4 a6 uq kq (.int 0) (.int m_t.2.1) (.int m_t.2.2) (g12) (g13) (g14) (g15) (g16) (g17) (g18) (g19) (g20) (g21) (g22) (.ref a7) (g23) (g24) (g25) (g26) (g27) (g28) (g29) (g30) (g31) (g32) (g33) (g34) (g35) (g36) q_q H.size o15 eo15.symm) (cwV 4 hts gfX12_takes_1 rfl rfl rfl (by decide +kernel) ⟨(Nat.le_of_ble_eq_true rfl), (Nat.le_of_ble_eq_true rfl)⟩) (PV (hP.sub (ws' := ((a0, .inr (9, [.int 0, .int m_t.2.1, .int m_t.2.2, .ref a6, g12, g13, g14, g15, g16, g17, g18, g19, g20, g21, g22, .ref a7, g23, g24, g25, g26, g27, g28, g29, g30, g31, g32, g33, g34, g35, g36])) :: bX11 a6 uq kq q_q [])) [1, 2, 3, 4, 5, 6, 7, 8, 9, 10, 11, 12, 13, 14, 15, 16] rfl) (hK.sub (tys' := (tX11 kq ([]))) [0, 1, 2, 3, 4, 5, 6, 7, 8, 9, 10, 11, 12, 13] rfl) (hD.sub (ws' := ((a0, .inr (9, [.int 0, .int m_t.2.1, .int m_t.2.2, .ref a6, g12, g13, g14, g15, g16, g17, g18, g19, g20, g21, g22, .ref a7, g23, g24, g25, g26, g27, g28, g29, g30, g31, g32, g33, g34, g35, g36])) :: bX11 a6 uq kq q_q [])) [1, 2, 3, 4, 5, 6, 7, 8, 9, 10, 11, 12, 13, 14, 15, 16] (by decide) rfl) hN 0 rfl rfl) rfl rfl hl.1 rfl (lv_room (Nat.le_of_ble_eq_true rfl)) dX12_takes_15 ⟨(Nat.le_of_ble_eq_true rfl), (Nat.le_of_ble_eq_true rfl)⟩) hP hD hK hS hA [1, 2, 3, 4, 5, 6, 7, 8, 9, 10, 11, 12, 13, 14, 15, 16] [0] rfl rfl (by decide) (by decide) (fun r15 _ H locs hw hP hD _ hS => ?_)
  obtain rfl := hw.symm
  have hP : va_P (dC, dI) vwCl ((a7, .inl (cB38, 26, .inl m_v)) :: (a0, .inr (9, [.int 0, .int m_t.2.1, .int m_t.2.2, .ref a6, g12, g13, g14, g15, g16, g17, g18, g19, g20, g21, g22, .ref a7, g23, g24, g25, g26, g27, g28, g29, g30, g31, g32, g33, g34, g35, g36])) :: bX11 a6 uq kq q_q []) H := hP
  have hD : va_D A ((a7, .inl (cB38, 26, .inl m_v)) :: (a0, .inr (9, [.int 0, .int m_t.2.1, .int m_t.2.2, .ref a6, g12, g13, g14, g15, g16, g17, g18, g19, g20, g21, g22, .ref a7, g23, g24, g25, g26, g27, g28, g29, g30, g31, g32, g33, g34, g35, g36])) :: bX11 a6 uq kq q_q []) := hD
  refine lv_istore (lv' := [(6, .int o15), (0, .ref a0), (1, .int k1), (2, .int k2), (3, .int k3), (4, .int k4), (5, .int k5)]) hx hb dX12_takes_18 hl (by decide) rfl (fun ls hl => ?_)
  refine lv_iload hx hb dX12_takes_20 (lv_at hl 0 rfl) ?_
  refine lv_if_le (tgt := 35) hx hb dX12_takes_22 (by decide) (fun c22 => ?_) (fun c22 => ?_)
  · have h := (if_pos c22).symm.trans h
    refine lv_aload_n hx hb dX12_takes_35 rfl (lv_at hl 1 rfl) ?_
    refine lv_aload_n hx hb dX12_takes_36 rfl (lv_at hl 1 rfl) ?_
    refine lv_iload_n hx hb dX12_takes_37 rfl (lv_at hl 2 rfl) ?_
    refine lv_aload_n hx hb dX12_takes_38 rfl (lv_at hl 1 rfl) ?_
    refine lv_iload_n hx hb dX12_takes_39 rfl (lv_at hl 3 rfl) ?_
    refine lv_iload_n hx hb dX12_takes_40 rfl (lv_at hl 4 rfl) ?_
    refine lv_iload hx hb dX12_takes_41 (lv_at hl 5 rfl) ?_
    obtain ⟨o43, eo43⟩ : ∃ o, o = f_X12_question k2 k3 k4 q_q := ⟨_, rfl⟩
    have h := nm_of h o43 eo43
    refine cl_i (wc := ((a0, .inr (9, [.int 0, .int m_t.2.1, .int m_t.2.2, .ref a6, g12, g13, g14, g15, g16, g17, g18, g19, g20, g21, g22, .ref a7, g23, g24, g25, g26, g27, g28, g29, g30, g31, g32, g33, g34, g35, g36])) :: bX11 a6 uq kq q_q [])) (wr := ([(a7, .inl (cB38, 26, .inl m_v))])) (va_runV (As := [.int k2, .int k3, .int k4]) (rest := [.int k1, .ref a0, .ref a0]) ⟨hx, hb, hml, hown, hts⟩ (kfX12_question l dC dI a0 k2 k3 k4 a6 uq kq (.int 0) (.int m_t.2.1) (.int m_t.2.2) (g12) (g13) (g14) (g15) (g16) (g17) (g18) (g19) (g20) (g21) (g22) (.ref a7) (g23) (g24) (g25) (g26) (g27) (g28) (g29) (g30) (g31) (g32) (g33) (g34) (g35) (g36) q_q H.size o43 eo43.symm) (cwV 3 hts gfX12_takes_2 rfl rfl rfl (by decide +kernel) ⟨(Nat.le_of_ble_eq_true rfl), (Nat.le_of_ble_eq_true rfl)⟩) (PV (hP.sub (ws' := ((a0, .inr (9, [.int 0, .int m_t.2.1, .int m_t.2.2, .ref a6, g12, g13, g14, g15, g16, g17, g18, g19, g20, g21, g22, .ref a7, g23, g24, g25, g26, g27, g28, g29, g30, g31, g32, g33, g34, g35, g36])) :: bX11 a6 uq kq q_q [])) [1, 2, 3, 4, 5, 6, 7, 8, 9, 10, 11, 12, 13, 14, 15, 16] rfl) (hK.sub (tys' := (tX11 kq ([]))) [0, 1, 2, 3, 4, 5, 6, 7, 8, 9, 10, 11, 12, 13] rfl) (hD.sub (ws' := ((a0, .inr (9, [.int 0, .int m_t.2.1, .int m_t.2.2, .ref a6, g12, g13, g14, g15, g16, g17, g18, g19, g20, g21, g22, .ref a7, g23, g24, g25, g26, g27, g28, g29, g30, g31, g32, g33, g34, g35, g36])) :: bX11 a6 uq kq q_q [])) [1, 2, 3, 4, 5, 6, 7, 8, 9, 10, 11, 12, 13, 14, 15, 16] (by decide) rfl) hN 0 rfl rfl) rfl rfl hl.1 rfl (lv_room (Nat.le_of_ble_eq_true rfl)) dX12_takes_43 ⟨(Nat.le_of_ble_eq_true rfl), (Nat.le_of_ble_eq_true rfl)⟩) hP hD hK hS hA [1, 2, 3, 4, 5, 6, 7, 8, 9, 10, 11, 12, 13, 14, 15, 16] [0] rfl rfl (by decide) (by decide) (fun r43 _ H locs hw hP hD _ hS => ?_)
    obtain rfl := hw.symm
    have hP : va_P (dC, dI) vwCl ((a7, .inl (cB38, 26, .inl m_v)) :: (a0, .inr (9, [.int 0, .int m_t.2.1, .int m_t.2.2, .ref a6, g12, g13, g14, g15, g16, g17, g18, g19, g20, g21, g22, .ref a7, g23, g24, g25, g26, g27, g28, g29, g30, g31, g32, g33, g34, g35, g36])) :: bX11 a6 uq kq q_q []) H := hP
    have hD : va_D A ((a7, .inl (cB38, 26, .inl m_v)) :: (a0, .inr (9, [.int 0, .int m_t.2.1, .int m_t.2.2, .ref a6, g12, g13, g14, g15, g16, g17, g18, g19, g20, g21, g22, .ref a7, g23, g24, g25, g26, g27, g28, g29, g30, g31, g32, g33, g34, g35, g36])) :: bX11 a6 uq kq q_q []) := hD
    obtain ⟨o46, eo46, h⟩ := bd_of h
    refine cl_l (wc := ((a0, .inr (9, [.int 0, .int m_t.2.1, .int m_t.2.2, .ref a6, g12, g13, g14, g15, g16, g17, g18, g19, g20, g21, g22, .ref a7, g23, g24, g25, g26, g27, g28, g29, g30, g31, g32, g33, g34, g35, g36])) :: bX11 a6 uq kq q_q ([(a7, .inl (cB38, 26, .inl m_v))]))) (wr := []) (va_runV (As := [.int k1, .int o43]) (rest := [.ref a0]) ⟨hx, hb, hml, hown, hts⟩ (kfX12_oddsOf l dC dI a0 k1 o43 a6 a7 uq kq m_v (.int 0) (.int m_t.2.1) (.int m_t.2.2) (g12) (g13) (g14) (g15) (g16) (g17) (g18) (g19) (g20) (g21) (g22) (g23) (g24) (g25) (g26) (g27) (g28) (g29) (g30) (g31) (g32) (g33) (g34) (g35) (g36) q_q cB38 H.size o46 eo46) (cwV 2 hts gfX12_takes_3 rfl rfl rfl (by decide +kernel) ⟨(Nat.le_of_ble_eq_true rfl), (Nat.le_of_ble_eq_true rfl)⟩) (PV (hP.sub (ws' := ((a0, .inr (9, [.int 0, .int m_t.2.1, .int m_t.2.2, .ref a6, g12, g13, g14, g15, g16, g17, g18, g19, g20, g21, g22, .ref a7, g23, g24, g25, g26, g27, g28, g29, g30, g31, g32, g33, g34, g35, g36])) :: bX11 a6 uq kq q_q ([(a7, .inl (cB38, 26, .inl m_v))]))) [1, 2, 3, 4, 5, 6, 7, 8, 9, 10, 11, 12, 13, 14, 15, 16, 0] rfl) (hK.sub (tys' := (tX11 kq ((cB38, .int) :: []))) [0, 1, 2, 3, 4, 5, 6, 7, 8, 9, 10, 11, 12, 13, 14] rfl) (hD.sub (ws' := ((a0, .inr (9, [.int 0, .int m_t.2.1, .int m_t.2.2, .ref a6, g12, g13, g14, g15, g16, g17, g18, g19, g20, g21, g22, .ref a7, g23, g24, g25, g26, g27, g28, g29, g30, g31, g32, g33, g34, g35, g36])) :: bX11 a6 uq kq q_q ([(a7, .inl (cB38, 26, .inl m_v))]))) [1, 2, 3, 4, 5, 6, 7, 8, 9, 10, 11, 12, 13, 14, 15, 16, 0] (by decide) rfl) hN 0 rfl rfl) rfl rfl hl.1 rfl (lv_room (Nat.le_of_ble_eq_true rfl)) dX12_takes_46 ⟨(Nat.le_of_ble_eq_true rfl), (Nat.le_of_ble_eq_true rfl)⟩) hP hD hK hS hA [1, 2, 3, 4, 5, 6, 7, 8, 9, 10, 11, 12, 13, 14, 15, 16, 0] [] rfl rfl (by decide) (by decide) (fun r46 _ H locs hw hP hD _ hS => ?_)
    obtain rfl := hw.symm
    have hP : va_P (dC, dI) vwCl ((a0, .inr (9, [.int 0, .int m_t.2.1, .int m_t.2.2, .ref a6, g12, g13, g14, g15, g16, g17, g18, g19, g20, g21, g22, .ref a7, g23, g24, g25, g26, g27, g28, g29, g30, g31, g32, g33, g34, g35, g36])) :: bX11 a6 uq kq q_q ([(a7, .inl (cB38, 26, .inl m_v))])) H := hP
    have hD : va_D A ((a0, .inr (9, [.int 0, .int m_t.2.1, .int m_t.2.2, .ref a6, g12, g13, g14, g15, g16, g17, g18, g19, g20, g21, g22, .ref a7, g23, g24, g25, g26, g27, g28, g29, g30, g31, g32, g33, g34, g35, g36])) :: bX11 a6 uq kq q_q ([(a7, .inl (cB38, 26, .inl m_v))])) := hD
    refine lv_aload_n hx hb dX12_takes_49 rfl (lv_at hl 1 rfl) ?_
    obtain ⟨o50, eo50, h⟩ := bd_of h
    refine cl_l (wc := ((a0, .inr (9, [.int 0, .int m_t.2.1, .int m_t.2.2, .ref a6, g12, g13, g14, g15, g16, g17, g18, g19, g20, g21, g22, .ref a7, g23, g24, g25, g26, g27, g28, g29, g30, g31, g32, g33, g34, g35, g36])) :: bX11 a6 uq kq q_q ([(a7, .inl (cB38, 26, .inl m_v))]))) (wr := []) (va_runV (As := []) (rest := [.long o46, .ref a0]) ⟨hx, hb, hml, hown, hts⟩ (kfX12_whole l dC dI a0 a6 a7 uq kq m_v (.int 0) (.int m_t.2.1) (.int m_t.2.2) (g12) (g13) (g14) (g15) (g16) (g17) (g18) (g19) (g20) (g21) (g22) (g23) (g24) (g25) (g26) (g27) (g28) (g29) (g30) (g31) (g32) (g33) (g34) (g35) (g36) q_q cB38 H.size o50 eo50) (cwV 0 hts gfX12_takes_4 rfl rfl rfl (by decide +kernel) ⟨(Nat.le_of_ble_eq_true rfl), (Nat.le_of_ble_eq_true rfl)⟩) (PV (hP.sub (ws' := ((a0, .inr (9, [.int 0, .int m_t.2.1, .int m_t.2.2, .ref a6, g12, g13, g14, g15, g16, g17, g18, g19, g20, g21, g22, .ref a7, g23, g24, g25, g26, g27, g28, g29, g30, g31, g32, g33, g34, g35, g36])) :: bX11 a6 uq kq q_q ([(a7, .inl (cB38, 26, .inl m_v))]))) [0, 1, 2, 3, 4, 5, 6, 7, 8, 9, 10, 11, 12, 13, 14, 15, 16] rfl) (hK.sub (tys' := (tX11 kq ((cB38, .int) :: []))) [0, 1, 2, 3, 4, 5, 6, 7, 8, 9, 10, 11, 12, 13, 14] rfl) (hD.sub (ws' := ((a0, .inr (9, [.int 0, .int m_t.2.1, .int m_t.2.2, .ref a6, g12, g13, g14, g15, g16, g17, g18, g19, g20, g21, g22, .ref a7, g23, g24, g25, g26, g27, g28, g29, g30, g31, g32, g33, g34, g35, g36])) :: bX11 a6 uq kq q_q ([(a7, .inl (cB38, 26, .inl m_v))]))) [0, 1, 2, 3, 4, 5, 6, 7, 8, 9, 10, 11, 12, 13, 14, 15, 16] (by decide) rfl) hN 0 rfl rfl) rfl rfl hl.1 rfl (lv_room (Nat.le_of_ble_eq_true rfl)) dX12_takes_50 ⟨(Nat.le_of_ble_eq_true rfl), (Nat.le_of_ble_eq_true rfl)⟩) hP hD hK hS hA [0, 1, 2, 3, 4, 5, 6, 7, 8, 9, 10, 11, 12, 13, 14, 15, 16] [] rfl rfl (by decide) (by decide) (fun r50 _ H locs hw hP hD _ hS => ?_)
    obtain rfl := hw.symm
    have hP : va_P (dC, dI) vwCl ((a0, .inr (9, [.int 0, .int m_t.2.1, .int m_t.2.2, .ref a6, g12, g13, g14, g15, g16, g17, g18, g19, g20, g21, g22, .ref a7, g23, g24, g25, g26, g27, g28, g29, g30, g31, g32, g33, g34, g35, g36])) :: bX11 a6 uq kq q_q ([(a7, .inl (cB38, 26, .inl m_v))])) H := hP
    have hD : va_D A ((a0, .inr (9, [.int 0, .int m_t.2.1, .int m_t.2.2, .ref a6, g12, g13, g14, g15, g16, g17, g18, g19, g20, g21, g22, .ref a7, g23, g24, g25, g26, g27, g28, g29, g30, g31, g32, g33, g34, g35, g36])) :: bX11 a6 uq kq q_q ([(a7, .inl (cB38, 26, .inl m_v))])) := hD
    refine lv_iload hx hb dX12_takes_53 (lv_at hl 6 rfl) ?_
    obtain ⟨o55, eo55, h⟩ := bd_of h
    refine cl_l (wc := ([(a0, .inr (9, [.int 0, .int m_t.2.1, .int m_t.2.2, .ref a6, g12, g13, g14, g15, g16, g17, g18, g19, g20, g21, g22, .ref a7, g23, g24, g25, g26, g27, g28, g29, g30, g31, g32, g33, g34, g35, g36]))])) (wr := (bX11 a6 uq kq q_q ([(a7, .inl (cB38, 26, .inl m_v))]))) (va_runV (As := [.long o46, .long o50, .int k5]) (rest := []) ⟨hx, hb, hml, hown, hts⟩ (kfX12_fraction l dC dI a0 o46 o50 k5 ((0 : Int32), m_t.2) (.ref a6) (g12) (g13) (g14) (g15) (g16) (g17) (g18) (g19) (g20) (g21) (g22) (.ref a7) (g23) (g24) (g25) (g26) (g27) (g28) (g29) (g30) (g31) (g32) (g33) (g34) (g35) (g36) H.size o55 eo55) (cwV 3 hts gfX12_takes_5 rfl rfl rfl (by decide +kernel) ⟨(Nat.le_of_ble_eq_true rfl), (Nat.le_of_ble_eq_true rfl)⟩) (PV (hP.sub (ws' := ([(a0, .inr (9, [.int 0, .int m_t.2.1, .int m_t.2.2, .ref a6, g12, g13, g14, g15, g16, g17, g18, g19, g20, g21, g22, .ref a7, g23, g24, g25, g26, g27, g28, g29, g30, g31, g32, g33, g34, g35, g36]))])) [0] rfl) (hK.sub (tys' := ([])) [] rfl) (hD.sub (ws' := ([(a0, .inr (9, [.int 0, .int m_t.2.1, .int m_t.2.2, .ref a6, g12, g13, g14, g15, g16, g17, g18, g19, g20, g21, g22, .ref a7, g23, g24, g25, g26, g27, g28, g29, g30, g31, g32, g33, g34, g35, g36]))])) [0] (by decide) rfl) hN 0 rfl rfl) rfl rfl hl.1 rfl (lv_room (Nat.le_of_ble_eq_true rfl)) dX12_takes_55 ⟨(Nat.le_of_ble_eq_true rfl), (Nat.le_of_ble_eq_true rfl)⟩) hP hD hK hS hA [0] [1, 2, 3, 4, 5, 6, 7, 8, 9, 10, 11, 12, 13, 14, 15, 16] rfl rfl (by decide) (by decide) (fun r55 _ H locs hw hP hD _ hS => ?_)
    obtain rfl := hw
    have hP : va_P (dC, dI) vwCl (bX11 a6 uq kq q_q ([(a7, .inl (cB38, 26, .inl m_v)), (a0, .inr (9, [.int o55.2.1, .int o55.2.2.1, .int o55.2.2.2, .ref a6, g12, g13, g14, g15, g16, g17, g18, g19, g20, g21, g22, .ref a7, g23, g24, g25, g26, g27, g28, g29, g30, g31, g32, g33, g34, g35, g36]))])) H := hP
    have hD : va_D A (bX11 a6 uq kq q_q ([(a7, .inl (cB38, 26, .inl m_v)), (a0, .inr (9, [.int o55.2.1, .int o55.2.2.1, .int o55.2.2.2, .ref a6, g12, g13, g14, g15, g16, g17, g18, g19, g20, g21, g22, .ref a7, g23, g24, g25, g26, g27, g28, g29, g30, g31, g32, g33, g34, g35, g36]))])) := hD
    obtain rfl := Option.some.inj h
    have hP9 := hP.sub (ws' := ((a0, .inr (9, [.int o55.2.1, .int o55.2.2.1, .int o55.2.2.2, .ref a6, g12, g13, g14, g15, g16, g17, g18, g19, g20, g21, g22, .ref a7, g23, g24, g25, g26, g27, g28, g29, g30, g31, g32, g33, g34, g35, g36])) :: bX11 a6 uq kq q_q ([(a7, .inl (cB38, 26, .inl m_v))]))) [16, 0, 1, 2, 3, 4, 5, 6, 7, 8, 9, 10, 11, 12, 13, 14, 15] rfl
    have hD9 := hD.sub (ws' := ((a0, .inr (9, [.int o55.2.1, .int o55.2.2.1, .int o55.2.2.2, .ref a6, g12, g13, g14, g15, g16, g17, g18, g19, g20, g21, g22, .ref a7, g23, g24, g25, g26, g27, g28, g29, g30, g31, g32, g33, g34, g35, g36])) :: bX11 a6 uq kq q_q ([(a7, .inl (cB38, 26, .inl m_v))]))) [16, 0, 1, 2, 3, 4, 5, 6, 7, 8, 9, 10, 11, 12, 13, 14, 15] (by decide) rfl
    have hK9 := hK.sub (tys' := []) [] rfl
    rw [hQQ]
    exact W.lret (v := o55.1) hx hb hr (fun t ht hW => ⟨⟨o55.1, (), rfl, rfl, by rw [ht]; exact hP9, va_K.moved hW.alike hK9, hD9⟩, hS.F ht⟩) hS.2.2 dX12_takes_58
  · have h := (if_neg c22).symm.trans h
    refine lv_aload_n hx hb dX12_takes_25 rfl (lv_at hl 1 rfl) ?_
    refine lv_iload hx hb dX12_takes_26 (lv_at hl 0 rfl) ?_
    obtain ⟨o28, eo28⟩ : ∃ o, o = f_X12_refused o15 ((0 : Int32), m_t.2) := ⟨_, rfl⟩
    have h := nm_of h o28 eo28
    refine cl_i (wc := ([(a0, .inr (9, [.int 0, .int m_t.2.1, .int m_t.2.2, .ref a6, g12, g13, g14, g15, g16, g17, g18, g19, g20, g21, g22, .ref a7, g23, g24, g25, g26, g27, g28, g29, g30, g31, g32, g33, g34, g35, g36]))])) (wr := ((a7, .inl (cB38, 26, .inl m_v)) :: bX11 a6 uq kq q_q [])) (va_runV (As := [.int o15]) (rest := []) ⟨hx, hb, hml, hown, hts⟩ (kfX12_refused l dC dI a0 o15 ((0 : Int32), m_t.2) (.ref a6) (g12) (g13) (g14) (g15) (g16) (g17) (g18) (g19) (g20) (g21) (g22) (.ref a7) (g23) (g24) (g25) (g26) (g27) (g28) (g29) (g30) (g31) (g32) (g33) (g34) (g35) (g36) H.size o28 eo28.symm) (cwV 1 hts gfX12_takes_6 rfl rfl rfl (by decide +kernel) ⟨(Nat.le_of_ble_eq_true rfl), (Nat.le_of_ble_eq_true rfl)⟩) (PV (hP.sub (ws' := ([(a0, .inr (9, [.int 0, .int m_t.2.1, .int m_t.2.2, .ref a6, g12, g13, g14, g15, g16, g17, g18, g19, g20, g21, g22, .ref a7, g23, g24, g25, g26, g27, g28, g29, g30, g31, g32, g33, g34, g35, g36]))])) [1] rfl) (hK.sub (tys' := ([])) [] rfl) (hD.sub (ws' := ([(a0, .inr (9, [.int 0, .int m_t.2.1, .int m_t.2.2, .ref a6, g12, g13, g14, g15, g16, g17, g18, g19, g20, g21, g22, .ref a7, g23, g24, g25, g26, g27, g28, g29, g30, g31, g32, g33, g34, g35, g36]))])) [1] (by decide) rfl) hN 0 rfl rfl) rfl rfl hl.1 rfl (lv_room (Nat.le_of_ble_eq_true rfl)) dX12_takes_28 ⟨(Nat.le_of_ble_eq_true rfl), (Nat.le_of_ble_eq_true rfl)⟩) hP hD hK hS hA [1] [0, 2, 3, 4, 5, 6, 7, 8, 9, 10, 11, 12, 13, 14, 15, 16] rfl rfl (by decide) (by decide) (fun r28 _ H locs hw hP hD _ hS => ?_)
    obtain rfl := hw
    have hP : va_P (dC, dI) vwCl ((a7, .inl (cB38, 26, .inl m_v)) :: bX11 a6 uq kq q_q ([(a0, .inr (9, [.int o28.1, .int o28.2.1, .int o28.2.2, .ref a6, g12, g13, g14, g15, g16, g17, g18, g19, g20, g21, g22, .ref a7, g23, g24, g25, g26, g27, g28, g29, g30, g31, g32, g33, g34, g35, g36]))])) H := hP
    have hD : va_D A ((a7, .inl (cB38, 26, .inl m_v)) :: bX11 a6 uq kq q_q ([(a0, .inr (9, [.int o28.1, .int o28.2.1, .int o28.2.2, .ref a6, g12, g13, g14, g15, g16, g17, g18, g19, g20, g21, g22, .ref a7, g23, g24, g25, g26, g27, g28, g29, g30, g31, g32, g33, g34, g35, g36]))])) := hD
    refine lv_i2l (v := (-1)) hx hb dX12_takes_31 (by decide) ?_
    refine lv_goto (tgt := 58) hx hb dX12_takes_32 (by decide) ?_
    obtain rfl := Option.some.inj h
    have hP9 := hP.sub (ws' := ((a0, .inr (9, [.int o28.1, .int o28.2.1, .int o28.2.2, .ref a6, g12, g13, g14, g15, g16, g17, g18, g19, g20, g21, g22, .ref a7, g23, g24, g25, g26, g27, g28, g29, g30, g31, g32, g33, g34, g35, g36])) :: bX11 a6 uq kq q_q ([(a7, .inl (cB38, 26, .inl m_v))]))) [16, 1, 2, 3, 4, 5, 6, 7, 8, 9, 10, 11, 12, 13, 14, 15, 0] rfl
    have hD9 := hD.sub (ws' := ((a0, .inr (9, [.int o28.1, .int o28.2.1, .int o28.2.2, .ref a6, g12, g13, g14, g15, g16, g17, g18, g19, g20, g21, g22, .ref a7, g23, g24, g25, g26, g27, g28, g29, g30, g31, g32, g33, g34, g35, g36])) :: bX11 a6 uq kq q_q ([(a7, .inl (cB38, 26, .inl m_v))]))) [16, 1, 2, 3, 4, 5, 6, 7, 8, 9, 10, 11, 12, 13, 14, 15, 0] (by decide) rfl
    have hK9 := hK.sub (tys' := []) [] rfl
    rw [hQQ]
    exact W.lret (v := (-1 : Int64)) hx hb hr (fun t ht hW => ⟨⟨(-1 : Int64), (), rfl, rfl, by rw [ht]; exact hP9, va_K.moved hW.alike hK9, hD9⟩, hS.F ht⟩) hS.2.2 dX12_takes_58
theorem dX12_noOdds_0 : decode cX12_noOdds 0 = .ok (.lconst 1, 1) := by decide +kernel
theorem dX12_noOdds_1 : decode cX12_noOdds 1 = .ok (.lstore_n 2, 1) := by decide +kernel
theorem dX12_noOdds_11 : decode cX12_noOdds 11 = .ok (.getfield 231, 3) := by decide +kernel
theorem dX12_noOdds_14 : decode cX12_noOdds 14 = .ok (.if_icmp .ge 36, 3) := by decide +kernel
theorem dX12_noOdds_17 : decode cX12_noOdds 17 = .ok (.aload_n 0, 1) := by decide +kernel
theorem dX12_noOdds_18 : decode cX12_noOdds 18 = .ok (.getfield 17, 3) := by decide +kernel
theorem dX12_noOdds_2 : decode cX12_noOdds 2 = .ok (.iconst 0, 1) := by decide +kernel
theorem dX12_noOdds_21 : decode cX12_noOdds 21 = .ok (.iconst 0, 1) := by decide +kernel
theorem dX12_noOdds_22 : decode cX12_noOdds 22 = .ok (.iload 4, 2) := by decide +kernel
theorem dX12_noOdds_24 : decode cX12_noOdds 24 = .ok (.iadd, 1) := by decide +kernel
theorem dX12_noOdds_25 : decode cX12_noOdds 25 = .ok (.iaload, 1) := by decide +kernel
theorem dX12_noOdds_26 : decode cX12_noOdds 26 = .ok (.ifCond .ne 18, 3) := by decide +kernel
theorem dX12_noOdds_29 : decode cX12_noOdds 29 = .ok (.lload_n 2, 1) := by decide +kernel
theorem dX12_noOdds_3 : decode cX12_noOdds 3 = .ok (.istore 4, 2) := by decide +kernel
theorem dX12_noOdds_30 : decode cX12_noOdds 30 = .ok (.ldc2_w 344, 3) := by decide +kernel
theorem dX12_noOdds_33 : decode cX12_noOdds 33 = .ok (.aload_n 0, 1) := by decide +kernel
theorem dX12_noOdds_34 : decode cX12_noOdds 34 = .ok (.iload 4, 2) := by decide +kernel
theorem dX12_noOdds_36 : decode cX12_noOdds 36 = .ok (.iload_n 1, 1) := by decide +kernel
theorem dX12_noOdds_37 : decode cX12_noOdds 37 = .ok (.invokevirtual 346, 3) := by decide +kernel
theorem dX12_noOdds_40 : decode cX12_noOdds 40 = .ok (.i2l, 1) := by decide +kernel
theorem dX12_noOdds_41 : decode cX12_noOdds 41 = .ok (.lsub, 1) := by decide +kernel
theorem dX12_noOdds_42 : decode cX12_noOdds 42 = .ok (.lmul, 1) := by decide +kernel
theorem dX12_noOdds_43 : decode cX12_noOdds 43 = .ok (.lstore_n 2, 1) := by decide +kernel
theorem dX12_noOdds_44 : decode cX12_noOdds 44 = .ok (.iinc 4 1, 3) := by decide +kernel
theorem dX12_noOdds_47 : decode cX12_noOdds 47 = .ok (.goto (-42), 3) := by decide +kernel
theorem dX12_noOdds_5 : decode cX12_noOdds 5 = .ok (.iload 4, 2) := by decide +kernel
theorem dX12_noOdds_50 : decode cX12_noOdds 50 = .ok (.lload_n 2, 1) := by decide +kernel
theorem dX12_noOdds_51 : decode cX12_noOdds 51 = .ok (.lreturn, 1) := by decide +kernel
theorem dX12_noOdds_7 : decode cX12_noOdds 7 = .ok (.aload_n 0, 1) := by decide +kernel
theorem dX12_noOdds_8 : decode cX12_noOdds 8 = .ok (.getfield 299, 3) := by decide +kernel
def vfX12_noOdds : List Cond := List.cons (.code yX12_noOdds cX12_noOdds 5 (some .long)) (apW [.fieldLink RX12 299 "HookPierModel" "pier" "LHookPierModel$Pier;", .fieldLink RX12 17 "HookPierModel" "v" "[I", .constantLong RX12 344 (100), .methodLink RX12 346 yX12_wishOf, .instanceMethod yX12_wishOf, .selects RX12 yX12_wishOf yX12_wishOf, .initialized RX12] (apW wsX120 (apW wsX110 (vfX12_wishOf))))
theorem ifX12_noOdds_X12 : ∀ w ∈ wsX120, w ∈ vfX12_noOdds := fun _ h => (List.mem_cons_of_mem _ (List.mem_append_right _ (List.mem_append_left _ h)))
theorem ifX12_noOdds_X11 : ∀ w ∈ wsX110, w ∈ vfX12_noOdds := fun _ h => (List.mem_cons_of_mem _ (List.mem_append_right _ (List.mem_append_right _ (List.mem_append_left _ h))))
theorem qfX12_noOdds : Good vfX12_noOdds := gd_cons (by decide +kernel) (gd_app (gd_dec (by decide +kernel) : Good [.fieldLink RX12 299 "HookPierModel" "pier" "LHookPierModel$Pier;", .fieldLink RX12 17 "HookPierModel" "v" "[I", .constantLong RX12 344 (100), .methodLink RX12 346 yX12_wishOf, .instanceMethod yX12_wishOf, .selects RX12 yX12_wishOf yX12_wishOf, .initialized RX12]) (gd_app qsX12 (gd_app qsX11 qfX12_wishOf)))
theorem gfX12_noOdds_0 : GoodIn vfX12_noOdds (wsV RX12 346 RX12 yX12_wishOf vfX12_wishOf) := goodIn_app (goodIn_r [.methodLink RX12 346 yX12_wishOf, .instanceMethod yX12_wishOf, .selects RX12 yX12_wishOf yX12_wishOf, .initialized RX12] [4, 5, 6, 7] rfl (by decide +kernel)) (goodIn_m (fun _ h => (List.mem_cons_of_mem _ (List.mem_append_right _ (List.mem_append_right _ (List.mem_append_right _ h))))) qfX12_wishOf)
set_option maxHeartbeats 2000000 in
set_option maxRecDepth 100000 in
theorem kfX12_noOdds (l : Launch) (dC : Nat → ClassId) (dI : Nat → Nat → Nat) (a0 : Nat) (k1 : Int32) (a2 : Nat) (a3 : Nat) (uq : Nat → Nat) (kq : Nat → ClassId) (m_v : TX12_v) (g7 : Value) (g8 : Value) (g9 : Value) (g10 : Value) (g11 : Value) (g12 : Value) (g13 : Value) (g14 : Value) (g15 : Value) (g16 : Value) (g17 : Value) (g18 : Value) (g19 : Value) (g20 : Value) (g21 : Value) (g22 : Value) (g23 : Value) (g24 : Value) (g25 : Value) (g26 : Value) (g27 : Value) (g28 : Value) (g29 : Value) (g30 : Value) (g31 : Value) (g32 : Value) (g33 : Value) (g34 : Value) (q_q : TX11_q) (cB36 : ClassId) (sz : Nat) (out : Int64) (h : f_X12_noOdds k1 m_v q_q = some out) : Met l yX12_noOdds vfX12_noOdds ({ frames := 4, cells := 0, slots := 0, locals := 93 }) (PC (dC, dI) [.ref a0, .int k1] sz ((a0, .inr (9, [g7, g8, g9, .ref a2, g10, g11, g12, g13, g14, g15, g16, g17, g18, g19, g20, .ref a3, g21, g22, g23, g24, g25, g26, g27, g28, g29, g30, g31, g32, g33, g34])) :: bX11 a2 uq kq q_q ([(a3, .inl (cB36, 26, .inl m_v))])) (tX11 kq ((cB36, .int) :: []))) (va_Ql (S := Unit) (fun (r : Int64) _ => r = out) (fun _ t => BC (dC, dI) (va_A ((a0, .inr (9, [g7, g8, g9, .ref a2, g10, g11, g12, g13, g14, g15, g16, g17, g18, g19, g20, .ref a3, g21, g22, g23, g24, g25, g26, g27, g28, g29, g30, g31, g32, g33, g34])) :: bX11 a2 uq kq q_q ([(a3, .inl (cB36, 26, .inl m_v))])) sz) ((a0, .inr (9, [g7, g8, g9, .ref a2, g10, g11, g12, g13, g14, g15, g16, g17, g18, g19, g20, .ref a3, g21, g22, g23, g24, g25, g26, g27, g28, g29, g30, g31, g32, g33, g34])) :: bX11 a2 uq kq q_q ([(a3, .inl (cB36, 26, .inl m_v))])) [] t) (va_A ((a0, .inr (9, [g7, g8, g9, .ref a2, g10, g11, g12, g13, g14, g15, g16, g17, g18, g19, g20, .ref a3, g21, g22, g23, g24, g25, g26, g27, g28, g29, g30, g31, g32, g33, g34])) :: bX11 a2 uq kq q_q ([(a3, .inl (cB36, 26, .inl m_v))])) sz)) 0 0 (va_A ((a0, .inr (9, [g7, g8, g9, .ref a2, g10, g11, g12, g13, g14, g15, g16, g17, g18, g19, g20, .ref a3, g21, g22, g23, g24, g25, g26, g27, g28, g29, g30, g31, g32, g33, g34])) :: bX11 a2 uq kq q_q ([(a3, .inl (cB36, 26, .inl m_v))])) sz) := by
  refine Met.ofW (cc := cX12_noOdds) (maxL := 5) (ret := (some .long)) (by decide) rfl ?_
  intro p e s m args below meth c s₁ B0 hml hv
  obtain ⟨rfl, hsz, hP, hK, hD0, hN⟩ := hv
  have hx := B0.exec
  have hb := B0.bytes
  have hr := B0.returns
  have hts := atoms_spec (ws := vfX12_noOdds) B0.pre
  have hown : s.vm.findClass RX12 = some m.cls := findClass_of_methodNamed B0.named
  have hlocks := B0.notSynchronized
  subst hsz
  have hD := hD0.self (sz := s.heap.size)
  generalize hAe : va_A ((a0, .inr (9, [g7, g8, g9, .ref a2, g10, g11, g12, g13, g14, g15, g16, g17, g18, g19, g20, .ref a3, g21, g22, g23, g24, g25, g26, g27, g28, g29, g30, g31, g32, g33, g34])) :: bX11 a2 uq kq q_q ([(a3, .inl (cB36, 26, .inl m_v))])) s.heap.size = A at hD ⊢
  have hA : ∀ q : Nat, s.heap.size ≤ q → A q := fun q h => by rw [← hAe]; exact Or.inr h
  have hS : va_S A s.heap s.heap [] := va_S.rf
  have hP : va_P (dC, dI) vwCl ((a0, .inr (9, [g7, g8, g9, .ref a2, g10, g11, g12, g13, g14, g15, g16, g17, g18, g19, g20, .ref a3, g21, g22, g23, g24, g25, g26, g27, g28, g29, g30, g31, g32, g33, g34])) :: bX11 a2 uq kq q_q ([(a3, .inl (cB36, 26, .inl m_v))])) s.heap := hP
  have hl := lv_entry ([.ref a0, .int k1]) (n := 5) (Nat.le_of_ble_eq_true rfl)
  rw [lg_entry_eq]
  generalize (lg_sl ([.ref a0, .int k1]) ++ List.replicate (5 - (lg_sl ([.ref a0, .int k1])).length) Slot.unset).toArray = ls at hl ⊢
  have hl : lv_has ls 5 [(0, .ref a0), (1, .int k1)] := hl
  refine W_q (fun QQ hQQ => ?_)
  rw [f_X12_noOdds] at h
  refine lv_lconst (v := 1) hx hb dX12_noOdds_0 (by decide) ?_
  refine lv_lstore_n (lv' := [(2, .long 1), (0, .ref a0), (1, .int k1)]) hx hb dX12_noOdds_1 rfl hl (by decide) rfl (fun ls hl => ?_)
  refine lv_iconst (v := 0) hx hb dX12_noOdds_2 (by decide) ?_
  refine lv_istore (lv' := [(4, .int 0), (2, .long 1), (0, .ref a0), (1, .int k1)]) hx hb dX12_noOdds_3 hl (by decide) rfl (fun ls hl => ?_)
  have L5 : ∀ (n5 : Nat) (v5_l4 : Int32) (v5_l2 : Int64) (H : Heap) (locs : List Loc) (ls : Array Slot), f_X12_noOdds_L5 k1 m_v q_q n5 v5_l4 v5_l2 = some out → va_P (dC, dI) vwCl ((a0, .inr (9, [g7, g8, g9, .ref a2, g10, g11, g12, g13, g14, g15, g16, g17, g18, g19, g20, .ref a3, g21, g22, g23, g24, g25, g26, g27, g28, g29, g30, g31, g32, g33, g34])) :: bX11 a2 uq kq q_q ([(a3, .inl (cB36, 26, .inl m_v))])) H → va_D A ((a0, .inr (9, [g7, g8, g9, .ref a2, g10, g11, g12, g13, g14, g15, g16, g17, g18, g19, g20, .ref a3, g21, g22, g23, g24, g25, g26, g27, g28, g29, g30, g31, g32, g33, g34])) :: bX11 a2 uq kq q_q ([(a3, .inl (cB36, 26, .inl m_v))])) → va_S A s.heap H locs → lv_has ls 5 [(4, .int v5_l4), (2, .long v5_l2), (0, .ref a0), (1, .int k1)] → W p l e (headSpec vfX12_noOdds { frames := 4, cells := 0, slots := 0, locals := 93 }).room s m ([.ref a0, .int k1]).toArray below meth c H locs 0 0 QQ (F0 m 5 ls []) := by
    intro n5
    induction n5 with
    | zero =>
      intro v5_l4 v5_l2 H locs ls h  _ _ _ _
      rw [f_X12_noOdds_L5] at h
      cases h
    | succ n5 ih5 =>
      intro v5_l4 v5_l2 H locs ls h  hP hD hS hl
      rw [f_X12_noOdds_L5] at h
      refine lv_iload hx hb dX12_noOdds_5 (lv_at hl 0 rfl) ?_
      refine lv_aload_n hx hb dX12_noOdds_7 rfl (lv_at hl 2 rfl) ?_
      refine va_get (D := (dC, dI)) (ci := 9) (v := .ref a2) (C := RX12) (T := TX12) (N := 30) hx hb hts ifX12_noOdds_X12 hown hK hP 0 rfl rfl 3 (by decide) (hts (.fieldLink RX12 299 "HookPierModel" "pier" "LHookPierModel$Pier;") (List.mem_of_getElem? (i := 1) rfl)) (fun _ h9 => h9) rfl dX12_noOdds_8 ?_
      refine va_getN (D := (dC, dI)) (ci := 8) (v := .int q_q.2.2.2.2.2.2.1) (C := RX11) (T := TX11) (N := 24) hx hb hts ifX12_noOdds_X11 hown hK hP 1 rfl rfl 6 (by decide) (va_Nw.use rfl (hN.1 (.fieldLinkNest RX12 231 "HookPierModel$Pier" "answers" "I" "HookPierModel") (List.mem_of_getElem? (i := 28) rfl))) (fun _ h9 => h9) rfl dX12_noOdds_11 ?_
      refine lv_icmp_ge (tgt := 50) hx hb dX12_noOdds_14 (by decide) (fun c14 => ?_) (fun c14 => ?_)
      · have h := (if_pos c14).symm.trans h
        refine lv_lload_n hx hb dX12_noOdds_50 rfl (lv_at hl 1 rfl) ?_
        obtain rfl := Option.some.inj h
        have hP9 := hP.sub (ws' := ((a0, .inr (9, [g7, g8, g9, .ref a2, g10, g11, g12, g13, g14, g15, g16, g17, g18, g19, g20, .ref a3, g21, g22, g23, g24, g25, g26, g27, g28, g29, g30, g31, g32, g33, g34])) :: bX11 a2 uq kq q_q ([(a3, .inl (cB36, 26, .inl m_v))]))) [0, 1, 2, 3, 4, 5, 6, 7, 8, 9, 10, 11, 12, 13, 14, 15, 16] rfl
        have hD9 := hD.sub (ws' := ((a0, .inr (9, [g7, g8, g9, .ref a2, g10, g11, g12, g13, g14, g15, g16, g17, g18, g19, g20, .ref a3, g21, g22, g23, g24, g25, g26, g27, g28, g29, g30, g31, g32, g33, g34])) :: bX11 a2 uq kq q_q ([(a3, .inl (cB36, 26, .inl m_v))]))) [0, 1, 2, 3, 4, 5, 6, 7, 8, 9, 10, 11, 12, 13, 14, 15, 16] (by decide) rfl
        have hK9 := hK.sub (tys' := []) [] rfl
        rw [hQQ]
        exact W.lret (v := v5_l2) hx hb hr (fun t ht hW => ⟨⟨v5_l2, (), rfl, rfl, by rw [ht]; exact hP9, va_K.moved hW.alike hK9, hD9⟩, hS.F ht⟩) hS.2.2 dX12_noOdds_51
      · have h := (if_neg c14).symm.trans h
        refine lv_aload_n hx hb dX12_noOdds_17 rfl (lv_at hl 2 rfl) ?_
        refine va_get (D := (dC, dI)) (ci := 9) (v := .ref a3) (C := RX12) (T := TX12) (N := 30) hx hb hts ifX12_noOdds_X12 hown hK hP 0 rfl rfl 15 (by decide) (hts (.fieldLink RX12 17 "HookPierModel" "v" "[I") (List.mem_of_getElem? (i := 2) rfl)) (fun _ h9 => h9) rfl dX12_noOdds_18 ?_
        refine lv_iconst (v := 0) hx hb dX12_noOdds_21 (by decide) ?_
        refine lv_iload hx hb dX12_noOdds_22 (lv_at hl 0 rfl) ?_
        refine lv_iadd hx hb dX12_noOdds_24 ?_
        obtain ⟨hg25, h⟩ := gA_of h
        refine va_iald hx hb hK hP 16 14 rfl rfl hg25 dX12_noOdds_25 ?_
        have J44 : ∀ (v44_l2 : Int64) (H : Heap) (locs : List Loc) (ls : Array Slot), f_X12_noOdds_J44 (f_X12_noOdds_L5 k1 m_v q_q n5) v5_l4 v44_l2 = some out → va_P (dC, dI) vwCl ((a0, .inr (9, [g7, g8, g9, .ref a2, g10, g11, g12, g13, g14, g15, g16, g17, g18, g19, g20, .ref a3, g21, g22, g23, g24, g25, g26, g27, g28, g29, g30, g31, g32, g33, g34])) :: bX11 a2 uq kq q_q ([(a3, .inl (cB36, 26, .inl m_v))])) H → va_D A ((a0, .inr (9, [g7, g8, g9, .ref a2, g10, g11, g12, g13, g14, g15, g16, g17, g18, g19, g20, .ref a3, g21, g22, g23, g24, g25, g26, g27, g28, g29, g30, g31, g32, g33, g34])) :: bX11 a2 uq kq q_q ([(a3, .inl (cB36, 26, .inl m_v))])) → va_S A s.heap H locs → lv_has ls 5 [(4, .int v5_l4), (2, .long v44_l2), (0, .ref a0), (1, .int k1)] → W p l e (headSpec vfX12_noOdds { frames := 4, cells := 0, slots := 0, locals := 93 }).room s m ([.ref a0, .int k1]).toArray below meth c H locs 0 0 QQ (F0 m 44 ls []) := by
          intro v44_l2 H locs ls h  hP hD hS hl
          rw [f_X12_noOdds_J44] at h
          refine lv_iinc (v := (v5_l4 + (1 : Int32))) (lv' := [(4, .int (v5_l4 + (1 : Int32))), (2, .long v44_l2), (0, .ref a0), (1, .int k1)]) hx hb dX12_noOdds_44 hl (k := 0) rfl rfl (by decide) rfl (fun ls hl => ?_)
          refine lv_goto (tgt := 5) hx hb dX12_noOdds_47 (by decide) ?_
          exact ih5 (v5_l4 + (1 : Int32)) v44_l2 H _ ls h  hP hD hS (lv_sub hl [0, 1, 2, 3] rfl)
        refine lv_if_ne (tgt := 44) hx hb dX12_noOdds_26 (by decide) (fun c26 => ?_) (fun c26 => ?_)
        · have h := (if_neg c26).symm.trans h
          exact J44 v5_l2 H _ ls h  hP hD hS (lv_sub hl [0, 1, 2, 3] rfl)
        · have h := (if_pos c26).symm.trans h
          refine lv_lload_n hx hb dX12_noOdds_29 rfl (lv_at hl 1 rfl) ?_
          refine lv_ldc2 hx hb hown (hts (.constantLong RX12 344 (100)) (List.mem_of_getElem? (i := 3) rfl)) dX12_noOdds_30 ?_
          refine lv_aload_n hx hb dX12_noOdds_33 rfl (lv_at hl 2 rfl) ?_
          refine lv_iload hx hb dX12_noOdds_34 (lv_at hl 0 rfl) ?_
          refine lv_iload_n hx hb dX12_noOdds_36 rfl (lv_at hl 3 rfl) ?_
          obtain ⟨o37, eo37, h⟩ := bd_of h
          refine cl_i (wc := ((a0, .inr (9, [g7, g8, g9, .ref a2, g10, g11, g12, g13, g14, g15, g16, g17, g18, g19, g20, .ref a3, g21, g22, g23, g24, g25, g26, g27, g28, g29, g30, g31, g32, g33, g34])) :: bX11 a2 uq kq q_q [])) (wr := ([(a3, .inl (cB36, 26, .inl m_v))])) (va_runV (As := [.int v5_l4, .int k1]) (rest := [.long 100, .long v5_l2]) ⟨hx, hb, hml, hown, hts⟩ (kfX12_wishOf l dC dI a0 v5_l4 k1 a2 uq kq (g7) (g8) (g9) (g10) (g11) (g12) (g13) (g14) (g15) (g16) (g17) (g18) (g19) (g20) (.ref a3) (g21) (g22) (g23) (g24) (g25) (g26) (g27) (g28) (g29) (g30) (g31) (g32) (g33) (g34) q_q H.size o37 eo37) (cwV 2 hts gfX12_noOdds_0 rfl rfl rfl (by decide +kernel) ⟨(Nat.le_of_ble_eq_true rfl), (Nat.le_of_ble_eq_true rfl)⟩) (PV (hP.sub (ws' := ((a0, .inr (9, [g7, g8, g9, .ref a2, g10, g11, g12, g13, g14, g15, g16, g17, g18, g19, g20, .ref a3, g21, g22, g23, g24, g25, g26, g27, g28, g29, g30, g31, g32, g33, g34])) :: bX11 a2 uq kq q_q [])) [0, 1, 2, 3, 4, 5, 6, 7, 8, 9, 10, 11, 12, 13, 14, 15] rfl) (hK.sub (tys' := (tX11 kq ([]))) [0, 1, 2, 3, 4, 5, 6, 7, 8, 9, 10, 11, 12, 13] rfl) (hD.sub (ws' := ((a0, .inr (9, [g7, g8, g9, .ref a2, g10, g11, g12, g13, g14, g15, g16, g17, g18, g19, g20, .ref a3, g21, g22, g23, g24, g25, g26, g27, g28, g29, g30, g31, g32, g33, g34])) :: bX11 a2 uq kq q_q [])) [0, 1, 2, 3, 4, 5, 6, 7, 8, 9, 10, 11, 12, 13, 14, 15] (by decide) rfl) hN 0 rfl rfl) rfl rfl hl.1 rfl (lv_room (Nat.le_of_ble_eq_true rfl)) dX12_noOdds_37 ⟨(Nat.le_of_ble_eq_true rfl), (Nat.le_of_ble_eq_true rfl)⟩) hP hD hK hS hA [0, 1, 2, 3, 4, 5, 6, 7, 8, 9, 10, 11, 12, 13, 14, 15] [16] rfl rfl (by decide) (by decide) (fun r37 _ H locs hw hP hD _ hS => ?_)
          obtain rfl := hw.symm
          have hP : va_P (dC, dI) vwCl ((a3, .inl (cB36, 26, .inl m_v)) :: (a0, .inr (9, [g7, g8, g9, .ref a2, g10, g11, g12, g13, g14, g15, g16, g17, g18, g19, g20, .ref a3, g21, g22, g23, g24, g25, g26, g27, g28, g29, g30, g31, g32, g33, g34])) :: bX11 a2 uq kq q_q []) H := hP
          have hD : va_D A ((a3, .inl (cB36, 26, .inl m_v)) :: (a0, .inr (9, [g7, g8, g9, .ref a2, g10, g11, g12, g13, g14, g15, g16, g17, g18, g19, g20, .ref a3, g21, g22, g23, g24, g25, g26, g27, g28, g29, g30, g31, g32, g33, g34])) :: bX11 a2 uq kq q_q []) := hD
          refine lv_i2l hx hb dX12_noOdds_40 rfl ?_
          refine lv_lsub hx hb dX12_noOdds_41 ?_
          refine lv_lmul hx hb dX12_noOdds_42 ?_
          refine lv_lstore_n (lv' := [(2, .long (v5_l2 * ((100 : Int64) - (o37).toInt64))), (4, .int v5_l4), (0, .ref a0), (1, .int k1)]) hx hb dX12_noOdds_43 rfl hl (by decide) rfl (fun ls hl => ?_)
          exact J44 (v5_l2 * ((100 : Int64) - (o37).toInt64)) H _ ls h  (hP.sub (ws' := ((a0, .inr (9, [g7, g8, g9, .ref a2, g10, g11, g12, g13, g14, g15, g16, g17, g18, g19, g20, .ref a3, g21, g22, g23, g24, g25, g26, g27, g28, g29, g30, g31, g32, g33, g34])) :: bX11 a2 uq kq q_q ([(a3, .inl (cB36, 26, .inl m_v))]))) [1, 2, 3, 4, 5, 6, 7, 8, 9, 10, 11, 12, 13, 14, 15, 16, 0] rfl) (hD.sub (ws' := ((a0, .inr (9, [g7, g8, g9, .ref a2, g10, g11, g12, g13, g14, g15, g16, g17, g18, g19, g20, .ref a3, g21, g22, g23, g24, g25, g26, g27, g28, g29, g30, g31, g32, g33, g34])) :: bX11 a2 uq kq q_q ([(a3, .inl (cB36, 26, .inl m_v))]))) [1, 2, 3, 4, 5, 6, 7, 8, 9, 10, 11, 12, 13, 14, 15, 16, 0] (by decide) rfl) hS (lv_sub hl [1, 0, 2, 3] rfl)
  exact L5 FU (0 : Int32) (1 : Int64) s.heap _ ls h  hP hD hS (lv_sub hl [0, 1, 2, 3] rfl)
theorem dX12_nothing_0 : decode cX12_nothing 0 = .ok (.aload_n 0, 1) := by decide +kernel
theorem dX12_nothing_1 : decode cX12_nothing 1 = .ok (.iconst 0, 1) := by decide +kernel
theorem dX12_nothing_10 : decode cX12_nothing 10 = .ok (.ifnull 7, 3) := by decide +kernel
theorem dX12_nothing_13 : decode cX12_nothing 13 = .ok (.iconst 1, 1) := by decide +kernel
theorem dX12_nothing_14 : decode cX12_nothing 14 = .ok (.goto 4, 3) := by decide +kernel
theorem dX12_nothing_18 : decode cX12_nothing 18 = .ok (.iload_n 1, 1) := by decide +kernel
theorem dX12_nothing_19 : decode cX12_nothing 19 = .ok (.iload_n 2, 1) := by decide +kernel
theorem dX12_nothing_2 : decode cX12_nothing 2 = .ok (.putfield 36, 3) := by decide +kernel
theorem dX12_nothing_20 : decode cX12_nothing 20 = .ok (.iload_n 3, 1) := by decide +kernel
theorem dX12_nothing_21 : decode cX12_nothing 21 = .ok (.invokevirtual 353, 3) := by decide +kernel
theorem dX12_nothing_24 : decode cX12_nothing 24 = .ok (.istore 5, 2) := by decide +kernel
theorem dX12_nothing_26 : decode cX12_nothing 26 = .ok (.iload 5, 2) := by decide +kernel
theorem dX12_nothing_28 : decode cX12_nothing 28 = .ok (.ifCond .le 13, 3) := by decide +kernel
theorem dX12_nothing_31 : decode cX12_nothing 31 = .ok (.aload_n 0, 1) := by decide +kernel
theorem dX12_nothing_32 : decode cX12_nothing 32 = .ok (.iload 5, 2) := by decide +kernel
theorem dX12_nothing_34 : decode cX12_nothing 34 = .ok (.invokevirtual 42, 3) := by decide +kernel
theorem dX12_nothing_37 : decode cX12_nothing 37 = .ok (.i2l, 1) := by decide +kernel
theorem dX12_nothing_38 : decode cX12_nothing 38 = .ok (.goto 24, 3) := by decide +kernel
theorem dX12_nothing_41 : decode cX12_nothing 41 = .ok (.aload_n 0, 1) := by decide +kernel
theorem dX12_nothing_42 : decode cX12_nothing 42 = .ok (.aload_n 0, 1) := by decide +kernel
theorem dX12_nothing_43 : decode cX12_nothing 43 = .ok (.aload_n 0, 1) := by decide +kernel
theorem dX12_nothing_44 : decode cX12_nothing 44 = .ok (.iload_n 1, 1) := by decide +kernel
theorem dX12_nothing_45 : decode cX12_nothing 45 = .ok (.iload_n 2, 1) := by decide +kernel
theorem dX12_nothing_46 : decode cX12_nothing 46 = .ok (.iload_n 3, 1) := by decide +kernel
theorem dX12_nothing_47 : decode cX12_nothing 47 = .ok (.invokevirtual 357, 3) := by decide +kernel
theorem dX12_nothing_5 : decode cX12_nothing 5 = .ok (.aload_n 0, 1) := by decide +kernel
theorem dX12_nothing_50 : decode cX12_nothing 50 = .ok (.invokevirtual 367, 3) := by decide +kernel
theorem dX12_nothing_53 : decode cX12_nothing 53 = .ok (.aload_n 0, 1) := by decide +kernel
theorem dX12_nothing_54 : decode cX12_nothing 54 = .ok (.invokevirtual 360, 3) := by decide +kernel
theorem dX12_nothing_57 : decode cX12_nothing 57 = .ok (.iload 4, 2) := by decide +kernel
theorem dX12_nothing_59 : decode cX12_nothing 59 = .ok (.invokevirtual 363, 3) := by decide +kernel
theorem dX12_nothing_6 : decode cX12_nothing 6 = .ok (.aload_n 0, 1) := by decide +kernel
theorem dX12_nothing_62 : decode cX12_nothing 62 = .ok (.lreturn, 1) := by decide +kernel
theorem dX12_nothing_7 : decode cX12_nothing 7 = .ok (.getfield 299, 3) := by decide +kernel
def vfX12_nothing : List Cond := List.cons (.code yX12_nothing cX12_nothing 6 (some .long)) (apW [.fieldLink RX12 36 "HookPierModel" "thrown" "I", .fieldLink RX12 299 "HookPierModel" "pier" "LHookPierModel$Pier;", .methodLink RX12 353 yX12_refusesQuestion, .instanceMethod yX12_refusesQuestion, .selects RX12 yX12_refusesQuestion yX12_refusesQuestion, .initialized RX12, .methodLink RX12 357 yX12_question, .instanceMethod yX12_question, .selects RX12 yX12_question yX12_question, .methodLink RX12 367 yX12_noOdds, .instanceMethod yX12_noOdds, .selects RX12 yX12_noOdds yX12_noOdds, .methodLink RX12 360 yX12_whole, .instanceMethod yX12_whole, .selects RX12 yX12_whole yX12_whole, .methodLink RX12 363 yX12_fraction, .instanceMethod yX12_fraction, .selects RX12 yX12_fraction yX12_fraction, .methodLink RX12 42 yX12_refused, .instanceMethod yX12_refused, .selects RX12 yX12_refused yX12_refused] (apW wsX120 (apW vfX12_refusesQuestion (apW vfX12_question (apW vfX12_noOdds (apW vfX12_whole (apW vfX12_fraction (vfX12_refused))))))))
theorem ifX12_nothing_X12 : ∀ w ∈ wsX120, w ∈ vfX12_nothing := fun _ h => (List.mem_cons_of_mem _ (List.mem_append_right _ (List.mem_append_left _ h)))
theorem qfX12_nothing : Good vfX12_nothing := gd_cons (by decide +kernel) (gd_app (gd_dec (by decide +kernel) : Good [.fieldLink RX12 36 "HookPierModel" "thrown" "I", .fieldLink RX12 299 "HookPierModel" "pier" "LHookPierModel$Pier;", .methodLink RX12 353 yX12_refusesQuestion, .instanceMethod yX12_refusesQuestion, .selects RX12 yX12_refusesQuestion yX12_refusesQuestion, .initialized RX12, .methodLink RX12 357 yX12_question, .instanceMethod yX12_question, .selects RX12 yX12_question yX12_question, .methodLink RX12 367 yX12_noOdds, .instanceMethod yX12_noOdds, .selects RX12 yX12_noOdds yX12_noOdds, .methodLink RX12 360 yX12_whole, .instanceMethod yX12_whole, .selects RX12 yX12_whole yX12_whole, .methodLink RX12 363 yX12_fraction, .instanceMethod yX12_fraction, .selects RX12 yX12_fraction yX12_fraction, .methodLink RX12 42 yX12_refused, .instanceMethod yX12_refused, .selects RX12 yX12_refused yX12_refused]) (gd_app qsX12 (gd_app qfX12_refusesQuestion (gd_app qfX12_question (gd_app qfX12_noOdds (gd_app qfX12_whole (gd_app qfX12_fraction qfX12_refused)))))))
theorem gfX12_nothing_0 : GoodIn vfX12_nothing (wsV RX12 353 RX12 yX12_refusesQuestion vfX12_refusesQuestion) := goodIn_app (goodIn_r [.methodLink RX12 353 yX12_refusesQuestion, .instanceMethod yX12_refusesQuestion, .selects RX12 yX12_refusesQuestion yX12_refusesQuestion, .initialized RX12] [3, 4, 5, 6] rfl (by decide +kernel)) (goodIn_m (fun _ h => (List.mem_cons_of_mem _ (List.mem_append_right _ (List.mem_append_right _ (List.mem_append_left _ h))))) qfX12_refusesQuestion)
theorem gfX12_nothing_1 : GoodIn vfX12_nothing (wsV RX12 357 RX12 yX12_question vfX12_question) := goodIn_app (goodIn_r [.methodLink RX12 357 yX12_question, .instanceMethod yX12_question, .selects RX12 yX12_question yX12_question, .initialized RX12] [7, 8, 9, 6] rfl (by decide +kernel)) (goodIn_m (fun _ h => (List.mem_cons_of_mem _ (List.mem_append_right _ (List.mem_append_right _ (List.mem_append_right _ (List.mem_append_left _ h)))))) qfX12_question)
theorem gfX12_nothing_2 : GoodIn vfX12_nothing (wsV RX12 367 RX12 yX12_noOdds vfX12_noOdds) := goodIn_app (goodIn_r [.methodLink RX12 367 yX12_noOdds, .instanceMethod yX12_noOdds, .selects RX12 yX12_noOdds yX12_noOdds, .initialized RX12] [10, 11, 12, 6] rfl (by decide +kernel)) (goodIn_m (fun _ h => (List.mem_cons_of_mem _ (List.mem_append_right _ (List.mem_append_right _ (List.mem_append_right _ (List.mem_append_right _ (List.mem_append_left _ h))))))) qfX12_noOdds)
theorem gfX12_nothing_3 : GoodIn vfX12_nothing (wsV RX12 360 RX12 yX12_whole vfX12_whole) := goodIn_app (goodIn_r [.methodLink RX12 360 yX12_whole, .instanceMethod yX12_whole, .selects RX12 yX12_whole yX12_whole, .initialized RX12] [13, 14, 15, 6] rfl (by decide +kernel)) (goodIn_m (fun _ h => (List.mem_cons_of_mem _ (List.mem_append_right _ (List.mem_append_right _ (List.mem_append_right _ (List.mem_append_right _ (List.mem_append_right _ (List.mem_append_left _ h)))))))) qfX12_whole)
theorem gfX12_nothing_4 : GoodIn vfX12_nothing (wsV RX12 363 RX12 yX12_fraction vfX12_fraction) := goodIn_app (goodIn_r [.methodLink RX12 363 yX12_fraction, .instanceMethod yX12_fraction, .selects RX12 yX12_fraction yX12_fraction, .initialized RX12] [16, 17, 18, 6] rfl (by decide +kernel)) (goodIn_m (fun _ h => (List.mem_cons_of_mem _ (List.mem_append_right _ (List.mem_append_right _ (List.mem_append_right _ (List.mem_append_right _ (List.mem_append_right _ (List.mem_append_right _ (List.mem_append_left _ h))))))))) qfX12_fraction)
theorem gfX12_nothing_5 : GoodIn vfX12_nothing (wsV RX12 42 RX12 yX12_refused vfX12_refused) := goodIn_app (goodIn_r [.methodLink RX12 42 yX12_refused, .instanceMethod yX12_refused, .selects RX12 yX12_refused yX12_refused, .initialized RX12] [19, 20, 21, 6] rfl (by decide +kernel)) (goodIn_m (fun _ h => (List.mem_cons_of_mem _ (List.mem_append_right _ (List.mem_append_right _ (List.mem_append_right _ (List.mem_append_right _ (List.mem_append_right _ (List.mem_append_right _ (List.mem_append_right _ h))))))))) qfX12_refused)
set_option maxHeartbeats 2000000 in
set_option maxRecDepth 100000 in
theorem kfX12_nothing (l : Launch) (dC : Nat → ClassId) (dI : Nat → Nat → Nat) (a0 : Nat) (k1 : Int32) (k2 : Int32) (k3 : Int32) (k4 : Int32) (a5 : Nat) (a6 : Nat) (uq : Nat → Nat) (kq : Nat → ClassId) (m_t : TX12_t) (m_v : TX12_v) (g11 : Value) (g12 : Value) (g13 : Value) (g14 : Value) (g15 : Value) (g16 : Value) (g17 : Value) (g18 : Value) (g19 : Value) (g20 : Value) (g21 : Value) (g22 : Value) (g23 : Value) (g24 : Value) (g25 : Value) (g26 : Value) (g27 : Value) (g28 : Value) (g29 : Value) (g30 : Value) (g31 : Value) (g32 : Value) (g33 : Value) (g34 : Value) (g35 : Value) (q_q : TX11_q) (cB37 : ClassId) (sz : Nat) (out : (Int64 × TX12_t)) (h : f_X12_nothing k1 k2 k3 k4 m_t m_v q_q = some out) : Met l yX12_nothing vfX12_nothing ({ frames := 5, cells := 0, slots := 0, locals := 117 }) (PC (dC, dI) [.ref a0, .int k1, .int k2, .int k3, .int k4] sz ((a0, .inr (9, [.int m_t.1, .int m_t.2.1, .int m_t.2.2, .ref a5, g11, g12, g13, g14, g15, g16, g17, g18, g19, g20, g21, .ref a6, g22, g23, g24, g25, g26, g27, g28, g29, g30, g31, g32, g33, g34, g35])) :: bX11 a5 uq kq q_q ([(a6, .inl (cB37, 26, .inl m_v))])) (tX11 kq ((cB37, .int) :: []))) (va_Ql (S := Unit) (fun (r : Int64) _ => r = out.1) (fun _ t => BC (dC, dI) (va_A ((a0, .inr (9, [.int m_t.1, .int m_t.2.1, .int m_t.2.2, .ref a5, g11, g12, g13, g14, g15, g16, g17, g18, g19, g20, g21, .ref a6, g22, g23, g24, g25, g26, g27, g28, g29, g30, g31, g32, g33, g34, g35])) :: bX11 a5 uq kq q_q ([(a6, .inl (cB37, 26, .inl m_v))])) sz) ((a0, .inr (9, [.int out.2.1, .int out.2.2.1, .int out.2.2.2, .ref a5, g11, g12, g13, g14, g15, g16, g17, g18, g19, g20, g21, .ref a6, g22, g23, g24, g25, g26, g27, g28, g29, g30, g31, g32, g33, g34, g35])) :: bX11 a5 uq kq q_q ([(a6, .inl (cB37, 26, .inl m_v))])) [] t) (va_A ((a0, .inr (9, [.int m_t.1, .int m_t.2.1, .int m_t.2.2, .ref a5, g11, g12, g13, g14, g15, g16, g17, g18, g19, g20, g21, .ref a6, g22, g23, g24, g25, g26, g27, g28, g29, g30, g31, g32, g33, g34, g35])) :: bX11 a5 uq kq q_q ([(a6, .inl (cB37, 26, .inl m_v))])) sz)) 0 0 (va_A ((a0, .inr (9, [.int m_t.1, .int m_t.2.1, .int m_t.2.2, .ref a5, g11, g12, g13, g14, g15, g16, g17, g18, g19, g20, g21, .ref a6, g22, g23, g24, g25, g26, g27, g28, g29, g30, g31, g32, g33, g34, g35])) :: bX11 a5 uq kq q_q ([(a6, .inl (cB37, 26, .inl m_v))])) sz) := by
  refine Met.ofW (cc := cX12_nothing) (maxL := 6) (ret := (some .long)) (by decide) rfl ?_
  intro p e s m args below meth c s₁ B0 hml hv
  obtain ⟨rfl, hsz, hP, hK, hD0, hN⟩ := hv
  have hx := B0.exec
  have hb := B0.bytes
  have hr := B0.returns
  have hts := atoms_spec (ws := vfX12_nothing) B0.pre
  have hown : s.vm.findClass RX12 = some m.cls := findClass_of_methodNamed B0.named
  have hlocks := B0.notSynchronized
  subst hsz
  have hD := hD0.self (sz := s.heap.size)
  generalize hAe : va_A ((a0, .inr (9, [.int m_t.1, .int m_t.2.1, .int m_t.2.2, .ref a5, g11, g12, g13, g14, g15, g16, g17, g18, g19, g20, g21, .ref a6, g22, g23, g24, g25, g26, g27, g28, g29, g30, g31, g32, g33, g34, g35])) :: bX11 a5 uq kq q_q ([(a6, .inl (cB37, 26, .inl m_v))])) s.heap.size = A at hD ⊢
  have hA : ∀ q : Nat, s.heap.size ≤ q → A q := fun q h => by rw [← hAe]; exact Or.inr h
  have hS : va_S A s.heap s.heap [] := va_S.rf
  have hP : va_P (dC, dI) vwCl ((a0, .inr (9, [.int m_t.1, .int m_t.2.1, .int m_t.2.2, .ref a5, g11, g12, g13, g14, g15, g16, g17, g18, g19, g20, g21, .ref a6, g22, g23, g24, g25, g26, g27, g28, g29, g30, g31, g32, g33, g34, g35])) :: bX11 a5 uq kq q_q ([(a6, .inl (cB37, 26, .inl m_v))])) s.heap := hP
  have hl := lv_entry ([.ref a0, .int k1, .int k2, .int k3, .int k4]) (n := 6) (Nat.le_of_ble_eq_true rfl)
  rw [lg_entry_eq]
  generalize (lg_sl ([.ref a0, .int k1, .int k2, .int k3, .int k4]) ++ List.replicate (6 - (lg_sl ([.ref a0, .int k1, .int k2, .int k3, .int k4])).length) Slot.unset).toArray = ls at hl ⊢
  have hl : lv_has ls 6 [(0, .ref a0), (1, .int k1), (2, .int k2), (3, .int k3), (4, .int k4)] := hl
  refine W_q (fun QQ hQQ => ?_)
  rw [f_X12_nothing] at h
  refine lv_aload_n hx hb dX12_nothing_0 rfl (lv_at hl 0 rfl) ?_
  refine lv_iconst (v := 0) hx hb dX12_nothing_1 (by decide) ?_
  refine va_put (D := (dC, dI)) (ci := 9) (v := .int 0) (ty := .int) (C := RX12) (T := TX12) (N := 30) hx hb hts ifX12_nothing_X12 tyX12 tyX12_ok nmX12 hown hK hP hD hS 0 rfl rfl 0 (by decide) (hts (.fieldLink RX12 36 "HookPierModel" "thrown" "I") (List.mem_of_getElem? (i := 1) rfl)) (fun _ h9 => h9) rfl (by decide +kernel) rfl rfl (Nat.le_of_ble_eq_true rfl) dX12_nothing_2 (fun H locs hP hD hS => ?_)
  have hP : va_P (dC, dI) vwCl ((a0, .inr (9, [.int 0, .int m_t.2.1, .int m_t.2.2, .ref a5, g11, g12, g13, g14, g15, g16, g17, g18, g19, g20, g21, .ref a6, g22, g23, g24, g25, g26, g27, g28, g29, g30, g31, g32, g33, g34, g35])) :: bX11 a5 uq kq q_q ([(a6, .inl (cB37, 26, .inl m_v))])) H := hP
  have hD : va_D A ((a0, .inr (9, [.int 0, .int m_t.2.1, .int m_t.2.2, .ref a5, g11, g12, g13, g14, g15, g16, g17, g18, g19, g20, g21, .ref a6, g22, g23, g24, g25, g26, g27, g28, g29, g30, g31, g32, g33, g34, g35])) :: bX11 a5 uq kq q_q ([(a6, .inl (cB37, 26, .inl m_v))])) := hD
  refine lv_aload_n hx hb dX12_nothing_5 rfl (lv_at hl 0 rfl) ?_
  refine lv_aload_n hx hb dX12_nothing_6 rfl (lv_at hl 0 rfl) ?_
  refine va_get (D := (dC, dI)) (ci := 9) (v := .ref a5) (C := RX12) (T := TX12) (N := 30) hx hb hts ifX12_nothing_X12 hown hK hP 0 rfl rfl 3 (by decide) (hts (.fieldLink RX12 299 "HookPierModel" "pier" "LHookPierModel$Pier;") (List.mem_of_getElem? (i := 2) rfl)) (fun _ h9 => h9) rfl dX12_nothing_7 ?_
  refine lv_ifnull hx hb dX12_nothing_10 ?_
  refine lv_iconst (v := 1) hx hb dX12_nothing_13 (by decide) ?_
  refine lv_goto (tgt := 18) hx hb dX12_nothing_14 (by decide) ?_
  refine lv_iload_n hx hb dX12_nothing_18 rfl (lv_at hl 1 rfl) ?_
  refine lv_iload_n hx hb dX12_nothing_19 rfl (lv_at hl 2 rfl) ?_
  refine lv_iload_n hx hb dX12_nothing_20 rfl (lv_at hl 3 rfl) ?_
  obtain ⟨o21, eo21⟩ : ∃ o, o = f_X12_refusesQuestion (1 : Int32) k1 k2 k3 q_q := ⟨_, rfl⟩
  have h := nm_of h o21 eo21
  refine cl_i (wc := ((a0, .inr (9, [.int 0, .int m_t.2.1, .int m_t.2.2, .ref a5, g11, g12, g13, g14, g15, g16, g17, g18, g19, g20, g21, .ref a6, g22, g23, g24, g25, g26, g27, g28, g29, g30, g31, g32, g33, g34, g35])) :: bX11 a5 uq kq q_q [])) (wr := ([(a6, .inl (cB37, 26, .inl m_v))])) (va_runV (As := [.int 1, .int k1, .int k2, .int k3]) (rest := []) ⟨hx, hb, hml, hown, hts⟩ (kfX12_refusesQuestion l dC dI a0 (1 : Int32) k1 k2 k3 a5 uq kq (.int 0) (.int m_t.2.1) (.int m_t.2.2) (g11) (g12) (g13) (g14) (g15) (g16) (g17) (g18) (g19) (g20) (g21) (.ref a6) (g22) (g23) (g24) (g25) (g26) (g27) (g28) (g29) (g30) (g31) (g32) (g33) (g34) (g35) q_q H.size o21 eo21.symm) (cwV 4 hts gfX12_nothing_0 rfl rfl rfl (by decide +kernel) ⟨(Nat.le_of_ble_eq_true rfl), (Nat.le_of_ble_eq_true rfl)⟩) (PV (hP.sub (ws' := ((a0, .inr (9, [.int 0, .int m_t.2.1, .int m_t.2.2, .ref a5, g11, g12, g13, g14, g15, g16, g17, g18, g19, g20, g21, .ref a6, g22, g23, g24, g25, g26, g27, g28, g29, g30, g31, g32, g33, g34, g35])) :: bX11 a5 uq kq q_q [])) [0, 1, 2, 3, 4, 5, 6, 7, 8, 9, 10, 11, 12, 13, 14, 15] rfl) (hK.sub (tys' := (tX11 kq ([]))) [0, 1, 2, 3, 4, 5, 6, 7, 8, 9, 10, 11, 12, 13] rfl) (hD.sub (ws' := ((a0, .inr (9, [.int 0, .int m_t.2.1, .int m_t.2.2, .ref a5, g11, g12, g13, g14, g15, g16, g17, g18, g19, g20, g21, .ref a6, g22, g23, g24, g25, g26, g27, g28, g29, g30, g31, g32, g33, g34, g35])) :: bX11 a5 uq kq q_q [])) [0, 1, 2, 3, 4, 5, 6, 7, 8, 9, 10, 11, 12, 13, 14, 15] (by decide) rfl) hN 0 rfl rfl) rfl rfl hl.1 rfl (lv_room (Nat.le_of_ble_eq_true rfl)) dX12_nothing_21 ⟨(Nat.le_of_ble_eq_true rfl), (Nat.le_of_ble_eq_true rfl)⟩) hP hD hK hS hA [0, 1, 2, 3, 4, 5, 6, 7, 8, 9, 10, 11, 12, 13, 14, 15] [16] rfl rfl (by decide) (by decide) (fun r21 _ H locs hw hP hD _ hS => ?_)
  obtain rfl := hw.symm
  have hP : va_P (dC, dI) vwCl ((a6, .inl (cB37, 26, .inl m_v)) :: (a0, .inr (9, [.int 0, .int m_t.2.1, .int m_t.2.2, .ref a5, g11, g12, g13, g14, g15, g16, g17, g18, g19, g20, g21, .ref a6, g22, g23, g24, g25, g26, g27, g28, g29, g30, g31, g32, g33, g34, g35])) :: bX11 a5 uq kq q_q []) H := hP
  have hD : va_D A ((a6, .inl (cB37, 26, .inl m_v)) :: (a0, .inr (9, [.int 0, .int m_t.2.1, .int m_t.2.2, .ref a5, g11, g12, g13, g14, g15, g16, g17, g18, g19, g20, g21, .ref a6, g22, g23, g24, g25, g26, g27, g28, g29, g30, g31, g32, g33, g34, g35])) :: bX11 a5 uq kq q_q []) := hD
  refine lv_istore (lv' := [(5, .int o21), (0, .ref a0), (1, .int k1), (2, .int k2), (3, .int k3), (4, .int k4)]) hx hb dX12_nothing_24 hl (by decide) rfl (fun ls hl => ?_)
  refine lv_iload hx hb dX12_nothing_26 (lv_at hl 0 rfl) ?_
  refine lv_if_le (tgt := 41) hx hb dX12_nothing_28 (by decide) (fun c28 => ?_) (fun c28 => ?_)
  · have h := (if_pos c28).symm.trans h
    refine lv_aload_n hx hb dX12_nothing_41 rfl (lv_at hl 1 rfl) ?_
    refine lv_aload_n hx hb dX12_nothing_42 rfl (lv_at hl 1 rfl) ?_
    refine lv_aload_n hx hb dX12_nothing_43 rfl (lv_at hl 1 rfl) ?_
    refine lv_iload_n hx hb dX12_nothing_44 rfl (lv_at hl 2 rfl) ?_
    refine lv_iload_n hx hb dX12_nothing_45 rfl (lv_at hl 3 rfl) ?_
    refine lv_iload_n hx hb dX12_nothing_46 rfl (lv_at hl 4 rfl) ?_
    obtain ⟨o47, eo47⟩ : ∃ o, o = f_X12_question k1 k2 k3 q_q := ⟨_, rfl⟩
    have h := nm_of h o47 eo47
    refine cl_i (wc := ((a0, .inr (9, [.int 0, .int m_t.2.1, .int m_t.2.2, .ref a5, g11, g12, g13, g14, g15, g16, g17, g18, g19, g20, g21, .ref a6, g22, g23, g24, g25, g26, g27, g28, g29, g30, g31, g32, g33, g34, g35])) :: bX11 a5 uq kq q_q [])) (wr := ([(a6, .inl (cB37, 26, .inl m_v))])) (va_runV (As := [.int k1, .int k2, .int k3]) (rest := [.ref a0, .ref a0]) ⟨hx, hb, hml, hown, hts⟩ (kfX12_question l dC dI a0 k1 k2 k3 a5 uq kq (.int 0) (.int m_t.2.1) (.int m_t.2.2) (g11) (g12) (g13) (g14) (g15) (g16) (g17) (g18) (g19) (g20) (g21) (.ref a6) (g22) (g23) (g24) (g25) (g26) (g27) (g28) (g29) (g30) (g31) (g32) (g33) (g34) (g35) q_q H.size o47 eo47.symm) (cwV 3 hts gfX12_nothing_1 rfl rfl rfl (by decide +kernel) ⟨(Nat.le_of_ble_eq_true rfl), (Nat.le_of_ble_eq_true rfl)⟩) (PV (hP.sub (ws' := ((a0, .inr (9, [.int 0, .int m_t.2.1, .int m_t.2.2, .ref a5, g11, g12, g13, g14, g15, g16, g17, g18, g19, g20, g21, .ref a6, g22, g23, g24, g25, g26, g27, g28, g29, g30, g31, g32, g33, g34, g35])) :: bX11 a5 uq kq q_q [])) [1, 2, 3, 4, 5, 6, 7, 8, 9, 10, 11, 12, 13, 14, 15, 16] rfl) (hK.sub (tys' := (tX11 kq ([]))) [0, 1, 2, 3, 4, 5, 6, 7, 8, 9, 10, 11, 12, 13] rfl) (hD.sub (ws' := ((a0, .inr (9, [.int 0, .int m_t.2.1, .int m_t.2.2, .ref a5, g11, g12, g13, g14, g15, g16, g17, g18, g19, g20, g21, .ref a6, g22, g23, g24, g25, g26, g27, g28, g29, g30, g31, g32, g33, g34, g35])) :: bX11 a5 uq kq q_q [])) [1, 2, 3, 4, 5, 6, 7, 8, 9, 10, 11, 12, 13, 14, 15, 16] (by decide) rfl) hN 0 rfl rfl) rfl rfl hl.1 rfl (lv_room (Nat.le_of_ble_eq_true rfl)) dX12_nothing_47 ⟨(Nat.le_of_ble_eq_true rfl), (Nat.le_of_ble_eq_true rfl)⟩) hP hD hK hS hA [1, 2, 3, 4, 5, 6, 7, 8, 9, 10, 11, 12, 13, 14, 15, 16] [0] rfl rfl (by decide) (by decide) (fun r47 _ H locs hw hP hD _ hS => ?_)
    obtain rfl := hw.symm
    have hP : va_P (dC, dI) vwCl ((a6, .inl (cB37, 26, .inl m_v)) :: (a0, .inr (9, [.int 0, .int m_t.2.1, .int m_t.2.2, .ref a5, g11, g12, g13, g14, g15, g16, g17, g18, g19, g20, g21, .ref a6, g22, g23, g24, g25, g26, g27, g28, g29, g30, g31, g32, g33, g34, g35])) :: bX11 a5 uq kq q_q []) H := hP
    have hD : va_D A ((a6, .inl (cB37, 26, .inl m_v)) :: (a0, .inr (9, [.int 0, .int m_t.2.1, .int m_t.2.2, .ref a5, g11, g12, g13, g14, g15, g16, g17, g18, g19, g20, g21, .ref a6, g22, g23, g24, g25, g26, g27, g28, g29, g30, g31, g32, g33, g34, g35])) :: bX11 a5 uq kq q_q []) := hD
    obtain ⟨o50, eo50, h⟩ := bd_of h
    refine cl_l (wc := ((a0, .inr (9, [.int 0, .int m_t.2.1, .int m_t.2.2, .ref a5, g11, g12, g13, g14, g15, g16, g17, g18, g19, g20, g21, .ref a6, g22, g23, g24, g25, g26, g27, g28, g29, g30, g31, g32, g33, g34, g35])) :: bX11 a5 uq kq q_q ([(a6, .inl (cB37, 26, .inl m_v))]))) (wr := []) (va_runV (As := [.int o47]) (rest := [.ref a0]) ⟨hx, hb, hml, hown, hts⟩ (kfX12_noOdds l dC dI a0 o47 a5 a6 uq kq m_v (.int 0) (.int m_t.2.1) (.int m_t.2.2) (g11) (g12) (g13) (g14) (g15) (g16) (g17) (g18) (g19) (g20) (g21) (g22) (g23) (g24) (g25) (g26) (g27) (g28) (g29) (g30) (g31) (g32) (g33) (g34) (g35) q_q cB37 H.size o50 eo50) (cwV 1 hts gfX12_nothing_2 rfl rfl rfl (by decide +kernel) ⟨(Nat.le_of_ble_eq_true rfl), (Nat.le_of_ble_eq_true rfl)⟩) (PV (hP.sub (ws' := ((a0, .inr (9, [.int 0, .int m_t.2.1, .int m_t.2.2, .ref a5, g11, g12, g13, g14, g15, g16, g17, g18, g19, g20, g21, .ref a6, g22, g23, g24, g25, g26, g27, g28, g29, g30, g31, g32, g33, g34, g35])) :: bX11 a5 uq kq q_q ([(a6, .inl (cB37, 26, .inl m_v))]))) [1, 2, 3, 4, 5, 6, 7, 8, 9, 10, 11, 12, 13, 14, 15, 16, 0] rfl) (hK.sub (tys' := (tX11 kq ((cB37, .int) :: []))) [0, 1, 2, 3, 4, 5, 6, 7, 8, 9, 10, 11, 12, 13, 14] rfl) (hD.sub (ws' := ((a0, .inr (9, [.int 0, .int m_t.2.1, .int m_t.2.2, .ref a5, g11, g12, g13, g14, g15, g16, g17, g18, g19, g20, g21, .ref a6, g22, g23, g24, g25, g26, g27, g28, g29, g30, g31, g32, g33, g34, g35])) :: bX11 a5 uq kq q_q ([(a6, .inl (cB37, 26, .inl m_v))]))) [1, 2, 3, 4, 5, 6, 7, 8, 9, 10, 11, 12, 13, 14, 15, 16, 0] (by decide) rfl) hN 0 rfl rfl) rfl rfl hl.1 rfl (lv_room (Nat.le_of_ble_eq_true rfl)) dX12_nothing_50 ⟨(Nat.le_of_ble_eq_true rfl), (Nat.le_of_ble_eq_true rfl)⟩) hP hD hK hS hA [1, 2, 3, 4, 5, 6, 7, 8, 9, 10, 11, 12, 13, 14, 15, 16, 0] [] rfl rfl (by decide) (by decide) (fun r50 _ H locs hw hP hD _ hS => ?_)
    obtain rfl := hw.symm
    have hP : va_P (dC, dI) vwCl ((a0, .inr (9, [.int 0, .int m_t.2.1, .int m_t.2.2, .ref a5, g11, g12, g13, g14, g15, g16, g17, g18, g19, g20, g21, .ref a6, g22, g23, g24, g25, g26, g27, g28, g29, g30, g31, g32, g33, g34, g35])) :: bX11 a5 uq kq q_q ([(a6, .inl (cB37, 26, .inl m_v))])) H := hP
    have hD : va_D A ((a0, .inr (9, [.int 0, .int m_t.2.1, .int m_t.2.2, .ref a5, g11, g12, g13, g14, g15, g16, g17, g18, g19, g20, g21, .ref a6, g22, g23, g24, g25, g26, g27, g28, g29, g30, g31, g32, g33, g34, g35])) :: bX11 a5 uq kq q_q ([(a6, .inl (cB37, 26, .inl m_v))])) := hD
    refine lv_aload_n hx hb dX12_nothing_53 rfl (lv_at hl 1 rfl) ?_
    obtain ⟨o54, eo54, h⟩ := bd_of h
    refine cl_l (wc := ((a0, .inr (9, [.int 0, .int m_t.2.1, .int m_t.2.2, .ref a5, g11, g12, g13, g14, g15, g16, g17, g18, g19, g20, g21, .ref a6, g22, g23, g24, g25, g26, g27, g28, g29, g30, g31, g32, g33, g34, g35])) :: bX11 a5 uq kq q_q ([(a6, .inl (cB37, 26, .inl m_v))]))) (wr := []) (va_runV (As := []) (rest := [.long o50, .ref a0]) ⟨hx, hb, hml, hown, hts⟩ (kfX12_whole l dC dI a0 a5 a6 uq kq m_v (.int 0) (.int m_t.2.1) (.int m_t.2.2) (g11) (g12) (g13) (g14) (g15) (g16) (g17) (g18) (g19) (g20) (g21) (g22) (g23) (g24) (g25) (g26) (g27) (g28) (g29) (g30) (g31) (g32) (g33) (g34) (g35) q_q cB37 H.size o54 eo54) (cwV 0 hts gfX12_nothing_3 rfl rfl rfl (by decide +kernel) ⟨(Nat.le_of_ble_eq_true rfl), (Nat.le_of_ble_eq_true rfl)⟩) (PV (hP.sub (ws' := ((a0, .inr (9, [.int 0, .int m_t.2.1, .int m_t.2.2, .ref a5, g11, g12, g13, g14, g15, g16, g17, g18, g19, g20, g21, .ref a6, g22, g23, g24, g25, g26, g27, g28, g29, g30, g31, g32, g33, g34, g35])) :: bX11 a5 uq kq q_q ([(a6, .inl (cB37, 26, .inl m_v))]))) [0, 1, 2, 3, 4, 5, 6, 7, 8, 9, 10, 11, 12, 13, 14, 15, 16] rfl) (hK.sub (tys' := (tX11 kq ((cB37, .int) :: []))) [0, 1, 2, 3, 4, 5, 6, 7, 8, 9, 10, 11, 12, 13, 14] rfl) (hD.sub (ws' := ((a0, .inr (9, [.int 0, .int m_t.2.1, .int m_t.2.2, .ref a5, g11, g12, g13, g14, g15, g16, g17, g18, g19, g20, g21, .ref a6, g22, g23, g24, g25, g26, g27, g28, g29, g30, g31, g32, g33, g34, g35])) :: bX11 a5 uq kq q_q ([(a6, .inl (cB37, 26, .inl m_v))]))) [0, 1, 2, 3, 4, 5, 6, 7, 8, 9, 10, 11, 12, 13, 14, 15, 16] (by decide) rfl) hN 0 rfl rfl) rfl rfl hl.1 rfl (lv_room (Nat.le_of_ble_eq_true rfl)) dX12_nothing_54 ⟨(Nat.le_of_ble_eq_true rfl), (Nat.le_of_ble_eq_true rfl)⟩) hP hD hK hS hA [0, 1, 2, 3, 4, 5, 6, 7, 8, 9, 10, 11, 12, 13, 14, 15, 16] [] rfl rfl (by decide) (by decide) (fun r54 _ H locs hw hP hD _ hS => ?_)
    obtain rfl := hw.symm
    have hP : va_P (dC, dI) vwCl ((a0, .inr (9, [.int 0, .int m_t.2.1, .int m_t.2.2, .ref a5, g11, g12, g13, g14, g15, g16, g17, g18, g19, g20, g21, .ref a6, g22, g23, g24, g25, g26, g27, g28, g29, g30, g31, g32, g33, g34, g35])) :: bX11 a5 uq kq q_q ([(a6, .inl (cB37, 26, .inl m_v))])) H := hP
    have hD : va_D A ((a0, .inr (9, [.int 0, .int m_t.2.1, .int m_t.2.2, .ref a5, g11, g12, g13, g14, g15, g16, g17, g18, g19, g20, g21, .ref a6, g22, g23, g24, g25, g26, g27, g28, g29, g30, g31, g32, g33, g34, g35])) :: bX11 a5 uq kq q_q ([(a6, .inl (cB37, 26, .inl m_v))])) := hD
    refine lv_iload hx hb dX12_nothing_57 (lv_at hl 5 rfl) ?_
    obtain ⟨o59, eo59, h⟩ := bd_of h
    refine cl_l (wc := ([(a0, .inr (9, [.int 0, .int m_t.2.1, .int m_t.2.2, .ref a5, g11, g12, g13, g14, g15, g16, g17, g18, g19, g20, g21, .ref a6, g22, g23, g24, g25, g26, g27, g28, g29, g30, g31, g32, g33, g34, g35]))])) (wr := (bX11 a5 uq kq q_q ([(a6, .inl (cB37, 26, .inl m_v))]))) (va_runV (As := [.long o50, .long o54, .int k4]) (rest := []) ⟨hx, hb, hml, hown, hts⟩ (kfX12_fraction l dC dI a0 o50 o54 k4 ((0 : Int32), m_t.2) (.ref a5) (g11) (g12) (g13) (g14) (g15) (g16) (g17) (g18) (g19) (g20) (g21) (.ref a6) (g22) (g23) (g24) (g25) (g26) (g27) (g28) (g29) (g30) (g31) (g32) (g33) (g34) (g35) H.size o59 eo59) (cwV 3 hts gfX12_nothing_4 rfl rfl rfl (by decide +kernel) ⟨(Nat.le_of_ble_eq_true rfl), (Nat.le_of_ble_eq_true rfl)⟩) (PV (hP.sub (ws' := ([(a0, .inr (9, [.int 0, .int m_t.2.1, .int m_t.2.2, .ref a5, g11, g12, g13, g14, g15, g16, g17, g18, g19, g20, g21, .ref a6, g22, g23, g24, g25, g26, g27, g28, g29, g30, g31, g32, g33, g34, g35]))])) [0] rfl) (hK.sub (tys' := ([])) [] rfl) (hD.sub (ws' := ([(a0, .inr (9, [.int 0, .int m_t.2.1, .int m_t.2.2, .ref a5, g11, g12, g13, g14, g15, g16, g17, g18, g19, g20, g21, .ref a6, g22, g23, g24, g25, g26, g27, g28, g29, g30, g31, g32, g33, g34, g35]))])) [0] (by decide) rfl) hN 0 rfl rfl) rfl rfl hl.1 rfl (lv_room (Nat.le_of_ble_eq_true rfl)) dX12_nothing_59 ⟨(Nat.le_of_ble_eq_true rfl), (Nat.le_of_ble_eq_true rfl)⟩) hP hD hK hS hA [0] [1, 2, 3, 4, 5, 6, 7, 8, 9, 10, 11, 12, 13, 14, 15, 16] rfl rfl (by decide) (by decide) (fun r59 _ H locs hw hP hD _ hS => ?_)
    obtain rfl := hw
    have hP : va_P (dC, dI) vwCl (bX11 a5 uq kq q_q ([(a6, .inl (cB37, 26, .inl m_v)), (a0, .inr (9, [.int o59.2.1, .int o59.2.2.1, .int o59.2.2.2, .ref a5, g11, g12, g13, g14, g15, g16, g17, g18, g19, g20, g21, .ref a6, g22, g23, g24, g25, g26, g27, g28, g29, g30, g31, g32, g33, g34, g35]))])) H := hP
    have hD : va_D A (bX11 a5 uq kq q_q ([(a6, .inl (cB37, 26, .inl m_v)), (a0, .inr (9, [.int o59.2.1, .int o59.2.2.1, .int o59.2.2.2, .ref a5, g11, g12, g13, g14, g15, g16, g17, g18, g19, g20, g21, .ref a6, g22, g23, g24, g25, g26, g27, g28, g29, g30, g31, g32, g33, g34, g35]))])) := hD
    obtain rfl := Option.some.inj h
    have hP9 := hP.sub (ws' := ((a0, .inr (9, [.int o59.2.1, .int o59.2.2.1, .int o59.2.2.2, .ref a5, g11, g12, g13, g14, g15, g16, g17, g18, g19, g20, g21, .ref a6, g22, g23, g24, g25, g26, g27, g28, g29, g30, g31, g32, g33, g34, g35])) :: bX11 a5 uq kq q_q ([(a6, .inl (cB37, 26, .inl m_v))]))) [16, 0, 1, 2, 3, 4, 5, 6, 7, 8, 9, 10, 11, 12, 13, 14, 15] rfl
    have hD9 := hD.sub (ws' := ((a0, .inr (9, [.int o59.2.1, .int o59.2.2.1, .int o59.2.2.2, .ref a5, g11, g12, g13, g14, g15, g16, g17, g18, g19, g20, g21, .ref a6, g22, g23, g24, g25, g26, g27, g28, g29, g30, g31, g32, g33, g34, g35])) :: bX11 a5 uq kq q_q ([(a6, .inl (cB37, 26, .inl m_v))]))) [16, 0, 1, 2, 3, 4, 5, 6, 7, 8, 9, 10, 11, 12, 13, 14, 15] (by decide) rfl
    have hK9 := hK.sub (tys' := []) [] rfl
    rw [hQQ]
    exact W.lret (v := o59.1) hx hb hr (fun t ht hW => ⟨⟨o59.1, (), rfl, rfl, by rw [ht]; exact hP9, va_K.moved hW.alike hK9, hD9⟩, hS.F ht⟩) hS.2.2 dX12_nothing_62
  · have h := (if_neg c28).symm.trans h
    refine lv_aload_n hx hb dX12_nothing_31 rfl (lv_at hl 1 rfl) ?_
    refine lv_iload hx hb dX12_nothing_32 (lv_at hl 0 rfl) ?_
    obtain ⟨o34, eo34⟩ : ∃ o, o = f_X12_refused o21 ((0 : Int32), m_t.2) := ⟨_, rfl⟩
    have h := nm_of h o34 eo34
    refine cl_i (wc := ([(a0, .inr (9, [.int 0, .int m_t.2.1, .int m_t.2.2, .ref a5, g11, g12, g13, g14, g15, g16, g17, g18, g19, g20, g21, .ref a6, g22, g23, g24, g25, g26, g27, g28, g29, g30, g31, g32, g33, g34, g35]))])) (wr := ((a6, .inl (cB37, 26, .inl m_v)) :: bX11 a5 uq kq q_q [])) (va_runV (As := [.int o21]) (rest := []) ⟨hx, hb, hml, hown, hts⟩ (kfX12_refused l dC dI a0 o21 ((0 : Int32), m_t.2) (.ref a5) (g11) (g12) (g13) (g14) (g15) (g16) (g17) (g18) (g19) (g20) (g21) (.ref a6) (g22) (g23) (g24) (g25) (g26) (g27) (g28) (g29) (g30) (g31) (g32) (g33) (g34) (g35) H.size o34 eo34.symm) (cwV 1 hts gfX12_nothing_5 rfl rfl rfl (by decide +kernel) ⟨(Nat.le_of_ble_eq_true rfl), (Nat.le_of_ble_eq_true rfl)⟩) (PV (hP.sub (ws' := ([(a0, .inr (9, [.int 0, .int m_t.2.1, .int m_t.2.2, .ref a5, g11, g12, g13, g14, g15, g16, g17, g18, g19, g20, g21, .ref a6, g22, g23, g24, g25, g26, g27, g28, g29, g30, g31, g32, g33, g34, g35]))])) [1] rfl) (hK.sub (tys' := ([])) [] rfl) (hD.sub (ws' := ([(a0, .inr (9, [.int 0, .int m_t.2.1, .int m_t.2.2, .ref a5, g11, g12, g13, g14, g15, g16, g17, g18, g19, g20, g21, .ref a6, g22, g23, g24, g25, g26, g27, g28, g29, g30, g31, g32, g33, g34, g35]))])) [1] (by decide) rfl) hN 0 rfl rfl) rfl rfl hl.1 rfl (lv_room (Nat.le_of_ble_eq_true rfl)) dX12_nothing_34 ⟨(Nat.le_of_ble_eq_true rfl), (Nat.le_of_ble_eq_true rfl)⟩) hP hD hK hS hA [1] [0, 2, 3, 4, 5, 6, 7, 8, 9, 10, 11, 12, 13, 14, 15, 16] rfl rfl (by decide) (by decide) (fun r34 _ H locs hw hP hD _ hS => ?_)
    obtain rfl := hw
    have hP : va_P (dC, dI) vwCl ((a6, .inl (cB37, 26, .inl m_v)) :: bX11 a5 uq kq q_q ([(a0, .inr (9, [.int o34.1, .int o34.2.1, .int o34.2.2, .ref a5, g11, g12, g13, g14, g15, g16, g17, g18, g19, g20, g21, .ref a6, g22, g23, g24, g25, g26, g27, g28, g29, g30, g31, g32, g33, g34, g35]))])) H := hP
    have hD : va_D A ((a6, .inl (cB37, 26, .inl m_v)) :: bX11 a5 uq kq q_q ([(a0, .inr (9, [.int o34.1, .int o34.2.1, .int o34.2.2, .ref a5, g11, g12, g13, g14, g15, g16, g17, g18, g19, g20, g21, .ref a6, g22, g23, g24, g25, g26, g27, g28, g29, g30, g31, g32, g33, g34, g35]))])) := hD
    refine lv_i2l (v := (-1)) hx hb dX12_nothing_37 (by decide) ?_
    refine lv_goto (tgt := 62) hx hb dX12_nothing_38 (by decide) ?_
    obtain rfl := Option.some.inj h
    have hP9 := hP.sub (ws' := ((a0, .inr (9, [.int o34.1, .int o34.2.1, .int o34.2.2, .ref a5, g11, g12, g13, g14, g15, g16, g17, g18, g19, g20, g21, .ref a6, g22, g23, g24, g25, g26, g27, g28, g29, g30, g31, g32, g33, g34, g35])) :: bX11 a5 uq kq q_q ([(a6, .inl (cB37, 26, .inl m_v))]))) [16, 1, 2, 3, 4, 5, 6, 7, 8, 9, 10, 11, 12, 13, 14, 15, 0] rfl
    have hD9 := hD.sub (ws' := ((a0, .inr (9, [.int o34.1, .int o34.2.1, .int o34.2.2, .ref a5, g11, g12, g13, g14, g15, g16, g17, g18, g19, g20, g21, .ref a6, g22, g23, g24, g25, g26, g27, g28, g29, g30, g31, g32, g33, g34, g35])) :: bX11 a5 uq kq q_q ([(a6, .inl (cB37, 26, .inl m_v))]))) [16, 1, 2, 3, 4, 5, 6, 7, 8, 9, 10, 11, 12, 13, 14, 15, 0] (by decide) rfl
    have hK9 := hK.sub (tys' := []) [] rfl
    rw [hQQ]
    exact W.lret (v := (-1 : Int64)) hx hb hr (fun t ht hW => ⟨⟨(-1 : Int64), (), rfl, rfl, by rw [ht]; exact hP9, va_K.moved hW.alike hK9, hD9⟩, hS.F ht⟩) hS.2.2 dX12_nothing_62
theorem dX12_meanOf_0 : decode cX12_meanOf 0 = .ok (.lconst 0, 1) := by decide +kernel
theorem dX12_meanOf_1 : decode cX12_meanOf 1 = .ok (.lstore_n 2, 1) := by decide +kernel
theorem dX12_meanOf_11 : decode cX12_meanOf 11 = .ok (.getfield 231, 3) := by decide +kernel
theorem dX12_meanOf_14 : decode cX12_meanOf 14 = .ok (.if_icmp .ge 45, 3) := by decide +kernel
theorem dX12_meanOf_17 : decode cX12_meanOf 17 = .ok (.aload_n 0, 1) := by decide +kernel
theorem dX12_meanOf_18 : decode cX12_meanOf 18 = .ok (.getfield 299, 3) := by decide +kernel
theorem dX12_meanOf_2 : decode cX12_meanOf 2 = .ok (.iconst 0, 1) := by decide +kernel
theorem dX12_meanOf_21 : decode cX12_meanOf 21 = .ok (.getfield 256, 3) := by decide +kernel
theorem dX12_meanOf_24 : decode cX12_meanOf 24 = .ok (.iload 4, 2) := by decide +kernel
theorem dX12_meanOf_26 : decode cX12_meanOf 26 = .ok (.iaload, 1) := by decide +kernel
theorem dX12_meanOf_27 : decode cX12_meanOf 27 = .ok (.iconst 2, 1) := by decide +kernel
theorem dX12_meanOf_28 : decode cX12_meanOf 28 = .ok (.if_icmp .eq 25, 3) := by decide +kernel
theorem dX12_meanOf_3 : decode cX12_meanOf 3 = .ok (.istore 4, 2) := by decide +kernel
theorem dX12_meanOf_31 : decode cX12_meanOf 31 = .ok (.lload_n 2, 1) := by decide +kernel
theorem dX12_meanOf_32 : decode cX12_meanOf 32 = .ok (.aload_n 0, 1) := by decide +kernel
theorem dX12_meanOf_33 : decode cX12_meanOf 33 = .ok (.iload 4, 2) := by decide +kernel
theorem dX12_meanOf_35 : decode cX12_meanOf 35 = .ok (.iload_n 1, 1) := by decide +kernel
theorem dX12_meanOf_36 : decode cX12_meanOf 36 = .ok (.invokevirtual 349, 3) := by decide +kernel
theorem dX12_meanOf_39 : decode cX12_meanOf 39 = .ok (.aload_n 0, 1) := by decide +kernel
theorem dX12_meanOf_40 : decode cX12_meanOf 40 = .ok (.getfield 299, 3) := by decide +kernel
theorem dX12_meanOf_43 : decode cX12_meanOf 43 = .ok (.getfield 267, 3) := by decide +kernel
theorem dX12_meanOf_46 : decode cX12_meanOf 46 = .ok (.iload 4, 2) := by decide +kernel
theorem dX12_meanOf_48 : decode cX12_meanOf 48 = .ok (.iaload, 1) := by decide +kernel
theorem dX12_meanOf_49 : decode cX12_meanOf 49 = .ok (.i2l, 1) := by decide +kernel
theorem dX12_meanOf_5 : decode cX12_meanOf 5 = .ok (.iload 4, 2) := by decide +kernel
theorem dX12_meanOf_50 : decode cX12_meanOf 50 = .ok (.lmul, 1) := by decide +kernel
theorem dX12_meanOf_51 : decode cX12_meanOf 51 = .ok (.ladd, 1) := by decide +kernel
theorem dX12_meanOf_52 : decode cX12_meanOf 52 = .ok (.lstore_n 2, 1) := by decide +kernel
theorem dX12_meanOf_53 : decode cX12_meanOf 53 = .ok (.iinc 4 1, 3) := by decide +kernel
theorem dX12_meanOf_56 : decode cX12_meanOf 56 = .ok (.goto (-51), 3) := by decide +kernel
theorem dX12_meanOf_59 : decode cX12_meanOf 59 = .ok (.lload_n 2, 1) := by decide +kernel
theorem dX12_meanOf_60 : decode cX12_meanOf 60 = .ok (.lreturn, 1) := by decide +kernel
theorem dX12_meanOf_7 : decode cX12_meanOf 7 = .ok (.aload_n 0, 1) := by decide +kernel
theorem dX12_meanOf_8 : decode cX12_meanOf 8 = .ok (.getfield 299, 3) := by decide +kernel
def vfX12_meanOf : List Cond := List.cons (.code yX12_meanOf cX12_meanOf 5 (some .long)) (apW [.fieldLink RX12 299 "HookPierModel" "pier" "LHookPierModel$Pier;", .methodLink RX12 349 yX12_oddsOf, .instanceMethod yX12_oddsOf, .selects RX12 yX12_oddsOf yX12_oddsOf, .initialized RX12] (apW wsX120 (apW wsX110 (vfX12_oddsOf))))
theorem ifX12_meanOf_X12 : ∀ w ∈ wsX120, w ∈ vfX12_meanOf := fun _ h => (List.mem_cons_of_mem _ (List.mem_append_right _ (List.mem_append_left _ h)))
theorem ifX12_meanOf_X11 : ∀ w ∈ wsX110, w ∈ vfX12_meanOf := fun _ h => (List.mem_cons_of_mem _ (List.mem_append_right _ (List.mem_append_right _ (List.mem_append_left _ h))))
theorem qfX12_meanOf : Good vfX12_meanOf := gd_cons (by decide +kernel) (gd_app (gd_dec (by decide +kernel) : Good [.fieldLink RX12 299 "HookPierModel" "pier" "LHookPierModel$Pier;", .methodLink RX12 349 yX12_oddsOf, .instanceMethod yX12_oddsOf, .selects RX12 yX12_oddsOf yX12_oddsOf, .initialized RX12]) (gd_app qsX12 (gd_app qsX11 qfX12_oddsOf)))
theorem gfX12_meanOf_0 : GoodIn vfX12_meanOf (wsV RX12 349 RX12 yX12_oddsOf vfX12_oddsOf) := goodIn_app (goodIn_r [.methodLink RX12 349 yX12_oddsOf, .instanceMethod yX12_oddsOf, .selects RX12 yX12_oddsOf yX12_oddsOf, .initialized RX12] [2, 3, 4, 5] rfl (by decide +kernel)) (goodIn_m (fun _ h => (List.mem_cons_of_mem _ (List.mem_append_right _ (List.mem_append_right _ (List.mem_append_right _ h))))) qfX12_oddsOf)
set_option maxHeartbeats 2000000 in
set_option maxRecDepth 100000 in
theorem kfX12_meanOf (l : Launch) (dC : Nat → ClassId) (dI : Nat → Nat → Nat) (a0 : Nat) (k1 : Int32) (a2 : Nat) (a3 : Nat) (uq : Nat → Nat) (kq : Nat → ClassId) (m_v : TX12_v) (g7 : Value) (g8 : Value) (g9 : Value) (g10 : Value) (g11 : Value) (g12 : Value) (g13 : Value) (g14 : Value) (g15 : Value) (g16 : Value) (g17 : Value) (g18 : Value) (g19 : Value) (g20 : Value) (g21 : Value) (g22 : Value) (g23 : Value) (g24 : Value) (g25 : Value) (g26 : Value) (g27 : Value) (g28 : Value) (g29 : Value) (g30 : Value) (g31 : Value) (g32 : Value) (g33 : Value) (g34 : Value) (q_q : TX11_q) (cB36 : ClassId) (sz : Nat) (out : Int64) (h : f_X12_meanOf k1 m_v q_q = some out) : Met l yX12_meanOf vfX12_meanOf ({ frames := 5, cells := 0, slots := 0, locals := 118 }) (PC (dC, dI) [.ref a0, .int k1] sz ((a0, .inr (9, [g7, g8, g9, .ref a2, g10, g11, g12, g13, g14, g15, g16, g17, g18, g19, g20, .ref a3, g21, g22, g23, g24, g25, g26, g27, g28, g29, g30, g31, g32, g33, g34])) :: bX11 a2 uq kq q_q ([(a3, .inl (cB36, 26, .inl m_v))])) (tX11 kq ((cB36, .int) :: []))) (va_Ql (S := Unit) (fun (r : Int64) _ => r = out) (fun _ t => BC (dC, dI) (va_A ((a0, .inr (9, [g7, g8, g9, .ref a2, g10, g11, g12, g13, g14, g15, g16, g17, g18, g19, g20, .ref a3, g21, g22, g23, g24, g25, g26, g27, g28, g29, g30, g31, g32, g33, g34])) :: bX11 a2 uq kq q_q ([(a3, .inl (cB36, 26, .inl m_v))])) sz) ((a0, .inr (9, [g7, g8, g9, .ref a2, g10, g11, g12, g13, g14, g15, g16, g17, g18, g19, g20, .ref a3, g21, g22, g23, g24, g25, g26, g27, g28, g29, g30, g31, g32, g33, g34])) :: bX11 a2 uq kq q_q ([(a3, .inl (cB36, 26, .inl m_v))])) [] t) (va_A ((a0, .inr (9, [g7, g8, g9, .ref a2, g10, g11, g12, g13, g14, g15, g16, g17, g18, g19, g20, .ref a3, g21, g22, g23, g24, g25, g26, g27, g28, g29, g30, g31, g32, g33, g34])) :: bX11 a2 uq kq q_q ([(a3, .inl (cB36, 26, .inl m_v))])) sz)) 0 0 (va_A ((a0, .inr (9, [g7, g8, g9, .ref a2, g10, g11, g12, g13, g14, g15, g16, g17, g18, g19, g20, .ref a3, g21, g22, g23, g24, g25, g26, g27, g28, g29, g30, g31, g32, g33, g34])) :: bX11 a2 uq kq q_q ([(a3, .inl (cB36, 26, .inl m_v))])) sz) := by
  refine Met.ofW (cc := cX12_meanOf) (maxL := 5) (ret := (some .long)) (by decide) rfl ?_
  intro p e s m args below meth c s₁ B0 hml hv
  obtain ⟨rfl, hsz, hP, hK, hD0, hN⟩ := hv
  have hx := B0.exec
  have hb := B0.bytes
  have hr := B0.returns
  have hts := atoms_spec (ws := vfX12_meanOf) B0.pre
  have hown : s.vm.findClass RX12 = some m.cls := findClass_of_methodNamed B0.named
  have hlocks := B0.notSynchronized
  subst hsz
  have hD := hD0.self (sz := s.heap.size)
  generalize hAe : va_A ((a0, .inr (9, [g7, g8, g9, .ref a2, g10, g11, g12, g13, g14, g15, g16, g17, g18, g19, g20, .ref a3, g21, g22, g23, g24, g25, g26, g27, g28, g29, g30, g31, g32, g33, g34])) :: bX11 a2 uq kq q_q ([(a3, .inl (cB36, 26, .inl m_v))])) s.heap.size = A at hD ⊢
  have hA : ∀ q : Nat, s.heap.size ≤ q → A q := fun q h => by rw [← hAe]; exact Or.inr h
  have hS : va_S A s.heap s.heap [] := va_S.rf
  have hP : va_P (dC, dI) vwCl ((a0, .inr (9, [g7, g8, g9, .ref a2, g10, g11, g12, g13, g14, g15, g16, g17, g18, g19, g20, .ref a3, g21, g22, g23, g24, g25, g26, g27, g28, g29, g30, g31, g32, g33, g34])) :: bX11 a2 uq kq q_q ([(a3, .inl (cB36, 26, .inl m_v))])) s.heap := hP
  have hl := lv_entry ([.ref a0, .int k1]) (n := 5) (Nat.le_of_ble_eq_true rfl)
  rw [lg_entry_eq]
  generalize (lg_sl ([.ref a0, .int k1]) ++ List.replicate (5 - (lg_sl ([.ref a0, .int k1])).length) Slot.unset).toArray = ls at hl ⊢
  have hl : lv_has ls 5 [(0, .ref a0), (1, .int k1)] := hl
  refine W_q (fun QQ hQQ => ?_)
  rw [f_X12_meanOf] at h
  refine lv_lconst (v := 0) hx hb dX12_meanOf_0 (by decide) ?_
  refine lv_lstore_n (lv' := [(2, .long 0), (0, .ref a0), (1, .int k1)]) hx hb dX12_meanOf_1 rfl hl (by decide) rfl (fun ls hl => ?_)
  refine lv_iconst (v := 0) hx hb dX12_meanOf_2 (by decide) ?_
  refine lv_istore (lv' := [(4, .int 0), (2, .long 0), (0, .ref a0), (1, .int k1)]) hx hb dX12_meanOf_3 hl (by decide) rfl (fun ls hl => ?_)
  have L5 : ∀ (n5 : Nat) (v5_l4 : Int32) (v5_l2 : Int64) (H : Heap) (locs : List Loc) (ls : Array Slot), f_X12_meanOf_L5 k1 m_v q_q n5 v5_l4 v5_l2 = some out → va_P (dC, dI) vwCl ((a0, .inr (9, [g7, g8, g9, .ref a2, g10, g11, g12, g13, g14, g15, g16, g17, g18, g19, g20, .ref a3, g21, g22, g23, g24, g25, g26, g27, g28, g29, g30, g31, g32, g33, g34])) :: bX11 a2 uq kq q_q ([(a3, .inl (cB36, 26, .inl m_v))])) H → va_D A ((a0, .inr (9, [g7, g8, g9, .ref a2, g10, g11, g12, g13, g14, g15, g16, g17, g18, g19, g20, .ref a3, g21, g22, g23, g24, g25, g26, g27, g28, g29, g30, g31, g32, g33, g34])) :: bX11 a2 uq kq q_q ([(a3, .inl (cB36, 26, .inl m_v))])) → va_S A s.heap H locs → lv_has ls 5 [(4, .int v5_l4), (2, .long v5_l2), (0, .ref a0), (1, .int k1)] → W p l e (headSpec vfX12_meanOf { frames := 5, cells := 0, slots := 0, locals := 118 }).room s m ([.ref a0, .int k1]).toArray below meth c H locs 0 0 QQ (F0 m 5 ls []) := by
    intro n5
    induction n5 with
    | zero =>
      intro v5_l4 v5_l2 H locs ls h  _ _ _ _
      rw [f_X12_meanOf_L5] at h
      cases h
    | succ n5 ih5 =>
      intro v5_l4 v5_l2 H locs ls h  hP hD hS hl
      rw [f_X12_meanOf_L5] at h
      refine lv_iload hx hb dX12_meanOf_5 (lv_at hl 0 rfl) ?_
      refine lv_aload_n hx hb dX12_meanOf_7 rfl (lv_at hl 2 rfl) ?_
      refine va_get (D := (dC, dI)) (ci := 9) (v := .ref a2) (C := RX12) (T := TX12) (N := 30) hx hb hts ifX12_meanOf_X12 hown hK hP 0 rfl rfl 3 (by decide) (hts (.fieldLink RX12 299 "HookPierModel" "pier" "LHookPierModel$Pier;") (List.mem_of_getElem? (i := 1) rfl)) (fun _ h9 => h9) rfl dX12_meanOf_8 ?_
      refine va_getN (D := (dC, dI)) (ci := 8) (v := .int q_q.2.2.2.2.2.2.1) (C := RX11) (T := TX11) (N := 24) hx hb hts ifX12_meanOf_X11 hown hK hP 1 rfl rfl 6 (by decide) (va_Nw.use rfl (hN.1 (.fieldLinkNest RX12 231 "HookPierModel$Pier" "answers" "I" "HookPierModel") (List.mem_of_getElem? (i := 28) rfl))) (fun _ h9 => h9) rfl dX12_meanOf_11 ?_
      refine lv_icmp_ge (tgt := 59) hx hb dX12_meanOf_14 (by decide) (fun c14 => ?_) (fun c14 => ?_)
      · have h := (if_pos c14).symm.trans h
        refine lv_lload_n hx hb dX12_meanOf_59 rfl (lv_at hl 1 rfl) ?_
        obtain rfl := Option.some.inj h
        have hP9 := hP.sub (ws' := ((a0, .inr (9, [g7, g8, g9, .ref a2, g10, g11, g12, g13, g14, g15, g16, g17, g18, g19, g20, .ref a3, g21, g22, g23, g24, g25, g26, g27, g28, g29, g30, g31, g32, g33, g34])) :: bX11 a2 uq kq q_q ([(a3, .inl (cB36, 26, .inl m_v))]))) [0, 1, 2, 3, 4, 5, 6, 7, 8, 9, 10, 11, 12, 13, 14, 15, 16] rfl
        have hD9 := hD.sub (ws' := ((a0, .inr (9, [g7, g8, g9, .ref a2, g10, g11, g12, g13, g14, g15, g16, g17, g18, g19, g20, .ref a3, g21, g22, g23, g24, g25, g26, g27, g28, g29, g30, g31, g32, g33, g34])) :: bX11 a2 uq kq q_q ([(a3, .inl (cB36, 26, .inl m_v))]))) [0, 1, 2, 3, 4, 5, 6, 7, 8, 9, 10, 11, 12, 13, 14, 15, 16] (by decide) rfl
        have hK9 := hK.sub (tys' := []) [] rfl
        rw [hQQ]
        exact W.lret (v := v5_l2) hx hb hr (fun t ht hW => ⟨⟨v5_l2, (), rfl, rfl, by rw [ht]; exact hP9, va_K.moved hW.alike hK9, hD9⟩, hS.F ht⟩) hS.2.2 dX12_meanOf_60
      · have h := (if_neg c14).symm.trans h
        refine lv_aload_n hx hb dX12_meanOf_17 rfl (lv_at hl 2 rfl) ?_
        refine va_get (D := (dC, dI)) (ci := 9) (v := .ref a2) (C := RX12) (T := TX12) (N := 30) hx hb hts ifX12_meanOf_X12 hown hK hP 0 rfl rfl 3 (by decide) (hts (.fieldLink RX12 299 "HookPierModel" "pier" "LHookPierModel$Pier;") (List.mem_of_getElem? (i := 1) rfl)) (fun _ h9 => h9) rfl dX12_meanOf_18 ?_
        refine va_getN (D := (dC, dI)) (ci := 8) (v := .ref (uq 1)) (C := RX11) (T := TX11) (N := 24) hx hb hts ifX12_meanOf_X11 hown hK hP 1 rfl rfl 11 (by decide) (va_Nw.use rfl (hN.1 (.fieldLinkNest RX12 256 "HookPierModel$Pier" "kind" "[I" "HookPierModel") (List.mem_of_getElem? (i := 33) rfl))) (fun _ h9 => h9) rfl dX12_meanOf_21 ?_
        refine lv_iload hx hb dX12_meanOf_24 (lv_at hl 0 rfl) ?_
        obtain ⟨hg26, h⟩ := gA_of h
        refine va_iald hx hb hK hP 3 1 rfl rfl hg26 dX12_meanOf_26 ?_
        refine lv_iconst (v := 2) hx hb dX12_meanOf_27 (by decide) ?_
        have J53 : ∀ (v53_l2 : Int64) (H : Heap) (locs : List Loc) (ls : Array Slot), f_X12_meanOf_J53 (f_X12_meanOf_L5 k1 m_v q_q n5) v5_l4 v53_l2 = some out → va_P (dC, dI) vwCl ((a0, .inr (9, [g7, g8, g9, .ref a2, g10, g11, g12, g13, g14, g15, g16, g17, g18, g19, g20, .ref a3, g21, g22, g23, g24, g25, g26, g27, g28, g29, g30, g31, g32, g33, g34])) :: bX11 a2 uq kq q_q ([(a3, .inl (cB36, 26, .inl m_v))])) H → va_D A ((a0, .inr (9, [g7, g8, g9, .ref a2, g10, g11, g12, g13, g14, g15, g16, g17, g18, g19, g20, .ref a3, g21, g22, g23, g24, g25, g26, g27, g28, g29, g30, g31, g32, g33, g34])) :: bX11 a2 uq kq q_q ([(a3, .inl (cB36, 26, .inl m_v))])) → va_S A s.heap H locs → lv_has ls 5 [(4, .int v5_l4), (2, .long v53_l2), (0, .ref a0), (1, .int k1)] → W p l e (headSpec vfX12_meanOf { frames := 5, cells := 0, slots := 0, locals := 118 }).room s m ([.ref a0, .int k1]).toArray below meth c H locs 0 0 QQ (F0 m 53 ls []) := by
          intro v53_l2 H locs ls h  hP hD hS hl
          rw [f_X12_meanOf_J53] at h
          refine lv_iinc (v := (v5_l4 + (1 : Int32))) (lv' := [(4, .int (v5_l4 + (1 : Int32))), (2, .long v53_l2), (0, .ref a0), (1, .int k1)]) hx hb dX12_meanOf_53 hl (k := 0) rfl rfl (by decide) rfl (fun ls hl => ?_)
          refine lv_goto (tgt := 5) hx hb dX12_meanOf_56 (by decide) ?_
          exact ih5 (v5_l4 + (1 : Int32)) v53_l2 H _ ls h  hP hD hS (lv_sub hl [0, 1, 2, 3] rfl)
        refine lv_icmp_eq (tgt := 53) hx hb dX12_meanOf_28 (by decide) (fun c28 => ?_) (fun c28 => ?_)
        · have h := (if_pos c28).symm.trans h
          exact J53 v5_l2 H _ ls h  hP hD hS (lv_sub hl [0, 1, 2, 3] rfl)
        · have h := (if_neg c28).symm.trans h
          refine lv_lload_n hx hb dX12_meanOf_31 rfl (lv_at hl 1 rfl) ?_
          refine lv_aload_n hx hb dX12_meanOf_32 rfl (lv_at hl 2 rfl) ?_
          refine lv_iload hx hb dX12_meanOf_33 (lv_at hl 0 rfl) ?_
          refine lv_iload_n hx hb dX12_meanOf_35 rfl (lv_at hl 3 rfl) ?_
          obtain ⟨o36, eo36, h⟩ := bd_of h
          refine cl_l (wc := ((a0, .inr (9, [g7, g8, g9, .ref a2, g10, g11, g12, g13, g14, g15, g16, g17, g18, g19, g20, .ref a3, g21, g22, g23, g24, g25, g26, g27, g28, g29, g30, g31, g32, g33, g34])) :: bX11 a2 uq kq q_q ([(a3, .inl (cB36, 26, .inl m_v))]))) (wr := []) (va_runV (As := [.int v5_l4, .int k1]) (rest := [.long v5_l2]) ⟨hx, hb, hml, hown, hts⟩ (kfX12_oddsOf l dC dI a0 v5_l4 k1 a2 a3 uq kq m_v (g7) (g8) (g9) (g10) (g11) (g12) (g13) (g14) (g15) (g16) (g17) (g18) (g19) (g20) (g21) (g22) (g23) (g24) (g25) (g26) (g27) (g28) (g29) (g30) (g31) (g32) (g33) (g34) q_q cB36 H.size o36 eo36) (cwV 2 hts gfX12_meanOf_0 rfl rfl rfl (by decide +kernel) ⟨(Nat.le_of_ble_eq_true rfl), (Nat.le_of_ble_eq_true rfl)⟩) (PV (hP.sub (ws' := ((a0, .inr (9, [g7, g8, g9, .ref a2, g10, g11, g12, g13, g14, g15, g16, g17, g18, g19, g20, .ref a3, g21, g22, g23, g24, g25, g26, g27, g28, g29, g30, g31, g32, g33, g34])) :: bX11 a2 uq kq q_q ([(a3, .inl (cB36, 26, .inl m_v))]))) [0, 1, 2, 3, 4, 5, 6, 7, 8, 9, 10, 11, 12, 13, 14, 15, 16] rfl) (hK.sub (tys' := (tX11 kq ((cB36, .int) :: []))) [0, 1, 2, 3, 4, 5, 6, 7, 8, 9, 10, 11, 12, 13, 14] rfl) (hD.sub (ws' := ((a0, .inr (9, [g7, g8, g9, .ref a2, g10, g11, g12, g13, g14, g15, g16, g17, g18, g19, g20, .ref a3, g21, g22, g23, g24, g25, g26, g27, g28, g29, g30, g31, g32, g33, g34])) :: bX11 a2 uq kq q_q ([(a3, .inl (cB36, 26, .inl m_v))]))) [0, 1, 2, 3, 4, 5, 6, 7, 8, 9, 10, 11, 12, 13, 14, 15, 16] (by decide) rfl) hN 0 rfl rfl) rfl rfl hl.1 rfl (lv_room (Nat.le_of_ble_eq_true rfl)) dX12_meanOf_36 ⟨(Nat.le_of_ble_eq_true rfl), (Nat.le_of_ble_eq_true rfl)⟩) hP hD hK hS hA [0, 1, 2, 3, 4, 5, 6, 7, 8, 9, 10, 11, 12, 13, 14, 15, 16] [] rfl rfl (by decide) (by decide) (fun r36 _ H locs hw hP hD _ hS => ?_)
          obtain rfl := hw.symm
          have hP : va_P (dC, dI) vwCl ((a0, .inr (9, [g7, g8, g9, .ref a2, g10, g11, g12, g13, g14, g15, g16, g17, g18, g19, g20, .ref a3, g21, g22, g23, g24, g25, g26, g27, g28, g29, g30, g31, g32, g33, g34])) :: bX11 a2 uq kq q_q ([(a3, .inl (cB36, 26, .inl m_v))])) H := hP
          have hD : va_D A ((a0, .inr (9, [g7, g8, g9, .ref a2, g10, g11, g12, g13, g14, g15, g16, g17, g18, g19, g20, .ref a3, g21, g22, g23, g24, g25, g26, g27, g28, g29, g30, g31, g32, g33, g34])) :: bX11 a2 uq kq q_q ([(a3, .inl (cB36, 26, .inl m_v))])) := hD
          refine lv_aload_n hx hb dX12_meanOf_39 rfl (lv_at hl 2 rfl) ?_
          refine va_get (D := (dC, dI)) (ci := 9) (v := .ref a2) (C := RX12) (T := TX12) (N := 30) hx hb hts ifX12_meanOf_X12 hown hK hP 0 rfl rfl 3 (by decide) (hts (.fieldLink RX12 299 "HookPierModel" "pier" "LHookPierModel$Pier;") (List.mem_of_getElem? (i := 1) rfl)) (fun _ h9 => h9) rfl dX12_meanOf_40 ?_
          refine va_getN (D := (dC, dI)) (ci := 8) (v := .ref (uq 6)) (C := RX11) (T := TX11) (N := 24) hx hb hts ifX12_meanOf_X11 hown hK hP 1 rfl rfl 16 (by decide) (va_Nw.use rfl (hN.1 (.fieldLinkNest RX12 267 "HookPierModel$Pier" "worth" "[I" "HookPierModel") (List.mem_of_getElem? (i := 38) rfl))) (fun _ h9 => h9) rfl dX12_meanOf_43 ?_
          refine lv_iload hx hb dX12_meanOf_46 (lv_at hl 0 rfl) ?_
          obtain ⟨hg48, h⟩ := gA_of h
          refine va_iald hx hb hK hP 8 6 rfl rfl hg48 dX12_meanOf_48 ?_
          refine lv_topi (fun z48 ez48 => ?_)
          have h := nm_of h z48 ez48
          refine lv_i2l hx hb dX12_meanOf_49 rfl ?_
          refine lv_lmul hx hb dX12_meanOf_50 ?_
          refine lv_ladd hx hb dX12_meanOf_51 ?_
          refine lv_lstore_n (lv' := [(2, .long (v5_l2 + (o36 * (z48).toInt64))), (4, .int v5_l4), (0, .ref a0), (1, .int k1)]) hx hb dX12_meanOf_52 rfl hl (by decide) rfl (fun ls hl => ?_)
          exact J53 (v5_l2 + (o36 * (z48).toInt64)) H _ ls h  hP hD hS (lv_sub hl [1, 0, 2, 3] rfl)
  exact L5 FU (0 : Int32) (0 : Int64) s.heap _ ls h  hP hD hS (lv_sub hl [0, 1, 2, 3] rfl)
theorem dX12_mean_0 : decode cX12_mean 0 = .ok (.aload_n 0, 1) := by decide +kernel
theorem dX12_mean_1 : decode cX12_mean 1 = .ok (.iconst 0, 1) := by decide +kernel
theorem dX12_mean_10 : decode cX12_mean 10 = .ok (.ifnull 7, 3) := by decide +kernel
theorem dX12_mean_13 : decode cX12_mean 13 = .ok (.iconst 1, 1) := by decide +kernel
theorem dX12_mean_14 : decode cX12_mean 14 = .ok (.goto 4, 3) := by decide +kernel
theorem dX12_mean_18 : decode cX12_mean 18 = .ok (.iload_n 1, 1) := by decide +kernel
theorem dX12_mean_19 : decode cX12_mean 19 = .ok (.iload_n 2, 1) := by decide +kernel
theorem dX12_mean_2 : decode cX12_mean 2 = .ok (.putfield 36, 3) := by decide +kernel
theorem dX12_mean_20 : decode cX12_mean 20 = .ok (.iload_n 3, 1) := by decide +kernel
theorem dX12_mean_21 : decode cX12_mean 21 = .ok (.invokevirtual 353, 3) := by decide +kernel
theorem dX12_mean_24 : decode cX12_mean 24 = .ok (.istore 5, 2) := by decide +kernel
theorem dX12_mean_26 : decode cX12_mean 26 = .ok (.iload 5, 2) := by decide +kernel
theorem dX12_mean_28 : decode cX12_mean 28 = .ok (.ifCond .le 13, 3) := by decide +kernel
theorem dX12_mean_31 : decode cX12_mean 31 = .ok (.aload_n 0, 1) := by decide +kernel
theorem dX12_mean_32 : decode cX12_mean 32 = .ok (.iload 5, 2) := by decide +kernel
theorem dX12_mean_34 : decode cX12_mean 34 = .ok (.invokevirtual 42, 3) := by decide +kernel
theorem dX12_mean_37 : decode cX12_mean 37 = .ok (.i2l, 1) := by decide +kernel
theorem dX12_mean_38 : decode cX12_mean 38 = .ok (.goto 24, 3) := by decide +kernel
theorem dX12_mean_41 : decode cX12_mean 41 = .ok (.aload_n 0, 1) := by decide +kernel
theorem dX12_mean_42 : decode cX12_mean 42 = .ok (.aload_n 0, 1) := by decide +kernel
theorem dX12_mean_43 : decode cX12_mean 43 = .ok (.aload_n 0, 1) := by decide +kernel
theorem dX12_mean_44 : decode cX12_mean 44 = .ok (.iload_n 1, 1) := by decide +kernel
theorem dX12_mean_45 : decode cX12_mean 45 = .ok (.iload_n 2, 1) := by decide +kernel
theorem dX12_mean_46 : decode cX12_mean 46 = .ok (.iload_n 3, 1) := by decide +kernel
theorem dX12_mean_47 : decode cX12_mean 47 = .ok (.invokevirtual 357, 3) := by decide +kernel
theorem dX12_mean_5 : decode cX12_mean 5 = .ok (.aload_n 0, 1) := by decide +kernel
theorem dX12_mean_50 : decode cX12_mean 50 = .ok (.invokevirtual 371, 3) := by decide +kernel
theorem dX12_mean_53 : decode cX12_mean 53 = .ok (.aload_n 0, 1) := by decide +kernel
theorem dX12_mean_54 : decode cX12_mean 54 = .ok (.invokevirtual 360, 3) := by decide +kernel
theorem dX12_mean_57 : decode cX12_mean 57 = .ok (.iload 4, 2) := by decide +kernel
theorem dX12_mean_59 : decode cX12_mean 59 = .ok (.invokevirtual 363, 3) := by decide +kernel
theorem dX12_mean_6 : decode cX12_mean 6 = .ok (.aload_n 0, 1) := by decide +kernel
theorem dX12_mean_62 : decode cX12_mean 62 = .ok (.lreturn, 1) := by decide +kernel
theorem dX12_mean_7 : decode cX12_mean 7 = .ok (.getfield 299, 3) := by decide +kernel
def vfX12_mean : List Cond := List.cons (.code yX12_mean cX12_mean 6 (some .long)) (apW [.fieldLink RX12 36 "HookPierModel" "thrown" "I", .fieldLink RX12 299 "HookPierModel" "pier" "LHookPierModel$Pier;", .methodLink RX12 353 yX12_refusesQuestion, .instanceMethod yX12_refusesQuestion, .selects RX12 yX12_refusesQuestion yX12_refusesQuestion, .initialized RX12, .methodLink RX12 357 yX12_question, .instanceMethod yX12_question, .selects RX12 yX12_question yX12_question, .methodLink RX12 371 yX12_meanOf, .instanceMethod yX12_meanOf, .selects RX12 yX12_meanOf yX12_meanOf, .methodLink RX12 360 yX12_whole, .instanceMethod yX12_whole, .selects RX12 yX12_whole yX12_whole, .methodLink RX12 363 yX12_fraction, .instanceMethod yX12_fraction, .selects RX12 yX12_fraction yX12_fraction, .methodLink RX12 42 yX12_refused, .instanceMethod yX12_refused, .selects RX12 yX12_refused yX12_refused] (apW wsX120 (apW vfX12_refusesQuestion (apW vfX12_question (apW vfX12_meanOf (apW vfX12_whole (apW vfX12_fraction (vfX12_refused))))))))
theorem ifX12_mean_X12 : ∀ w ∈ wsX120, w ∈ vfX12_mean := fun _ h => (List.mem_cons_of_mem _ (List.mem_append_right _ (List.mem_append_left _ h)))
theorem qfX12_mean : Good vfX12_mean := gd_cons (by decide +kernel) (gd_app (gd_dec (by decide +kernel) : Good [.fieldLink RX12 36 "HookPierModel" "thrown" "I", .fieldLink RX12 299 "HookPierModel" "pier" "LHookPierModel$Pier;", .methodLink RX12 353 yX12_refusesQuestion, .instanceMethod yX12_refusesQuestion, .selects RX12 yX12_refusesQuestion yX12_refusesQuestion, .initialized RX12, .methodLink RX12 357 yX12_question, .instanceMethod yX12_question, .selects RX12 yX12_question yX12_question, .methodLink RX12 371 yX12_meanOf, .instanceMethod yX12_meanOf, .selects RX12 yX12_meanOf yX12_meanOf, .methodLink RX12 360 yX12_whole, .instanceMethod yX12_whole, .selects RX12 yX12_whole yX12_whole, .methodLink RX12 363 yX12_fraction, .instanceMethod yX12_fraction, .selects RX12 yX12_fraction yX12_fraction, .methodLink RX12 42 yX12_refused, .instanceMethod yX12_refused, .selects RX12 yX12_refused yX12_refused]) (gd_app qsX12 (gd_app qfX12_refusesQuestion (gd_app qfX12_question (gd_app qfX12_meanOf (gd_app qfX12_whole (gd_app qfX12_fraction qfX12_refused)))))))
theorem gfX12_mean_0 : GoodIn vfX12_mean (wsV RX12 353 RX12 yX12_refusesQuestion vfX12_refusesQuestion) := goodIn_app (goodIn_r [.methodLink RX12 353 yX12_refusesQuestion, .instanceMethod yX12_refusesQuestion, .selects RX12 yX12_refusesQuestion yX12_refusesQuestion, .initialized RX12] [3, 4, 5, 6] rfl (by decide +kernel)) (goodIn_m (fun _ h => (List.mem_cons_of_mem _ (List.mem_append_right _ (List.mem_append_right _ (List.mem_append_left _ h))))) qfX12_refusesQuestion)
theorem gfX12_mean_1 : GoodIn vfX12_mean (wsV RX12 357 RX12 yX12_question vfX12_question) := goodIn_app (goodIn_r [.methodLink RX12 357 yX12_question, .instanceMethod yX12_question, .selects RX12 yX12_question yX12_question, .initialized RX12] [7, 8, 9, 6] rfl (by decide +kernel)) (goodIn_m (fun _ h => (List.mem_cons_of_mem _ (List.mem_append_right _ (List.mem_append_right _ (List.mem_append_right _ (List.mem_append_left _ h)))))) qfX12_question)
theorem gfX12_mean_2 : GoodIn vfX12_mean (wsV RX12 371 RX12 yX12_meanOf vfX12_meanOf) := goodIn_app (goodIn_r [.methodLink RX12 371 yX12_meanOf, .instanceMethod yX12_meanOf, .selects RX12 yX12_meanOf yX12_meanOf, .initialized RX12] [10, 11, 12, 6] rfl (by decide +kernel)) (goodIn_m (fun _ h => (List.mem_cons_of_mem _ (List.mem_append_right _ (List.mem_append_right _ (List.mem_append_right _ (List.mem_append_right _ (List.mem_append_left _ h))))))) qfX12_meanOf)
theorem gfX12_mean_3 : GoodIn vfX12_mean (wsV RX12 360 RX12 yX12_whole vfX12_whole) := goodIn_app (goodIn_r [.methodLink RX12 360 yX12_whole, .instanceMethod yX12_whole, .selects RX12 yX12_whole yX12_whole, .initialized RX12] [13, 14, 15, 6] rfl (by decide +kernel)) (goodIn_m (fun _ h => (List.mem_cons_of_mem _ (List.mem_append_right _ (List.mem_append_right _ (List.mem_append_right _ (List.mem_append_right _ (List.mem_append_right _ (List.mem_append_left _ h)))))))) qfX12_whole)
theorem gfX12_mean_4 : GoodIn vfX12_mean (wsV RX12 363 RX12 yX12_fraction vfX12_fraction) := goodIn_app (goodIn_r [.methodLink RX12 363 yX12_fraction, .instanceMethod yX12_fraction, .selects RX12 yX12_fraction yX12_fraction, .initialized RX12] [16, 17, 18, 6] rfl (by decide +kernel)) (goodIn_m (fun _ h => (List.mem_cons_of_mem _ (List.mem_append_right _ (List.mem_append_right _ (List.mem_append_right _ (List.mem_append_right _ (List.mem_append_right _ (List.mem_append_right _ (List.mem_append_left _ h))))))))) qfX12_fraction)
theorem gfX12_mean_5 : GoodIn vfX12_mean (wsV RX12 42 RX12 yX12_refused vfX12_refused) := goodIn_app (goodIn_r [.methodLink RX12 42 yX12_refused, .instanceMethod yX12_refused, .selects RX12 yX12_refused yX12_refused, .initialized RX12] [19, 20, 21, 6] rfl (by decide +kernel)) (goodIn_m (fun _ h => (List.mem_cons_of_mem _ (List.mem_append_right _ (List.mem_append_right _ (List.mem_append_right _ (List.mem_append_right _ (List.mem_append_right _ (List.mem_append_right _ (List.mem_append_right _ h))))))))) qfX12_refused)
set_option maxHeartbeats 2000000 in
set_option maxRecDepth 100000 in
theorem kfX12_mean (l : Launch) (dC : Nat → ClassId) (dI : Nat → Nat → Nat) (a0 : Nat) (k1 : Int32) (k2 : Int32) (k3 : Int32) (k4 : Int32) (a5 : Nat) (a6 : Nat) (uq : Nat → Nat) (kq : Nat → ClassId) (m_t : TX12_t) (m_v : TX12_v) (g11 : Value) (g12 : Value) (g13 : Value) (g14 : Value) (g15 : Value) (g16 : Value) (g17 : Value) (g18 : Value) (g19 : Value) (g20 : Value) (g21 : Value) (g22 : Value) (g23 : Value) (g24 : Value) (g25 : Value) (g26 : Value) (g27 : Value) (g28 : Value) (g29 : Value) (g30 : Value) (g31 : Value) (g32 : Value) (g33 : Value) (g34 : Value) (g35 : Value) (q_q : TX11_q) (cB37 : ClassId) (sz : Nat) (out : (Int64 × TX12_t)) (h : f_X12_mean k1 k2 k3 k4 m_t m_v q_q = some out) : Met l yX12_mean vfX12_mean ({ frames := 6, cells := 0, slots := 0, locals := 142 }) (PC (dC, dI) [.ref a0, .int k1, .int k2, .int k3, .int k4] sz ((a0, .inr (9, [.int m_t.1, .int m_t.2.1, .int m_t.2.2, .ref a5, g11, g12, g13, g14, g15, g16, g17, g18, g19, g20, g21, .ref a6, g22, g23, g24, g25, g26, g27, g28, g29, g30, g31, g32, g33, g34, g35])) :: bX11 a5 uq kq q_q ([(a6, .inl (cB37, 26, .inl m_v))])) (tX11 kq ((cB37, .int) :: []))) (va_Ql (S := Unit) (fun (r : Int64) _ => r = out.1) (fun _ t => BC (dC, dI) (va_A ((a0, .inr (9, [.int m_t.1, .int m_t.2.1, .int m_t.2.2, .ref a5, g11, g12, g13, g14, g15, g16, g17, g18, g19, g20, g21, .ref a6, g22, g23, g24, g25, g26, g27, g28, g29, g30, g31, g32, g33, g34, g35])) :: bX11 a5 uq kq q_q ([(a6, .inl (cB37, 26, .inl m_v))])) sz) ((a0, .inr (9, [.int out.2.1, .int out.2.2.1, .int out.2.2.2, .ref a5, g11, g12, g13, g14, g15, g16, g17, g18, g19, g20, g21, .ref a6, g22, g23, g24, g25, g26, g27, g28, g29, g30, g31, g32, g33, g34, g35])) :: bX11 a5 uq kq q_q ([(a6, .inl (cB37, 26, .inl m_v))])) [] t) (va_A ((a0, .inr (9, [.int m_t.1, .int m_t.2.1, .int m_t.2.2, .ref a5, g11, g12, g13, g14, g15, g16, g17, g18, g19, g20, g21, .ref a6, g22, g23, g24, g25, g26, g27, g28, g29, g30, g31, g32, g33, g34, g35])) :: bX11 a5 uq kq q_q ([(a6, .inl (cB37, 26, .inl m_v))])) sz)) 0 0 (va_A ((a0, .inr (9, [.int m_t.1, .int m_t.2.1, .int m_t.2.2, .ref a5, g11, g12, g13, g14, g15, g16, g17, g18, g19, g20, g21, .ref a6, g22, g23, g24, g25, g26, g27, g28, g29, g30, g31, g32, g33, g34, g35])) :: bX11 a5 uq kq q_q ([(a6, .inl (cB37, 26, .inl m_v))])) sz) := by
  refine Met.ofW (cc := cX12_mean) (maxL := 6) (ret := (some .long)) (by decide) rfl ?_
  intro p e s m args below meth c s₁ B0 hml hv
  obtain ⟨rfl, hsz, hP, hK, hD0, hN⟩ := hv
  have hx := B0.exec
  have hb := B0.bytes
  have hr := B0.returns
  have hts := atoms_spec (ws := vfX12_mean) B0.pre
  have hown : s.vm.findClass RX12 = some m.cls := findClass_of_methodNamed B0.named
  have hlocks := B0.notSynchronized
  subst hsz
  have hD := hD0.self (sz := s.heap.size)
  generalize hAe : va_A ((a0, .inr (9, [.int m_t.1, .int m_t.2.1, .int m_t.2.2, .ref a5, g11, g12, g13, g14, g15, g16, g17, g18, g19, g20, g21, .ref a6, g22, g23, g24, g25, g26, g27, g28, g29, g30, g31, g32, g33, g34, g35])) :: bX11 a5 uq kq q_q ([(a6, .inl (cB37, 26, .inl m_v))])) s.heap.size = A at hD ⊢
  have hA : ∀ q : Nat, s.heap.size ≤ q → A q := fun q h => by rw [← hAe]; exact Or.inr h
  have hS : va_S A s.heap s.heap [] := va_S.rf
  have hP : va_P (dC, dI) vwCl ((a0, .inr (9, [.int m_t.1, .int m_t.2.1, .int m_t.2.2, .ref a5, g11, g12, g13, g14, g15, g16, g17, g18, g19, g20, g21, .ref a6, g22, g23, g24, g25, g26, g27, g28, g29, g30, g31, g32, g33, g34, g35])) :: bX11 a5 uq kq q_q ([(a6, .inl (cB37, 26, .inl m_v))])) s.heap := hP
  have hl := lv_entry ([.ref a0, .int k1, .int k2, .int k3, .int k4]) (n := 6) (Nat.le_of_ble_eq_true rfl)
  rw [lg_entry_eq]
  generalize (lg_sl ([.ref a0, .int k1, .int k2, .int k3, .int k4]) ++ List.replicate (6 - (lg_sl ([.ref a0, .int k1, .int k2, .int k3, .int k4])).length) Slot.unset).toArray = ls at hl ⊢
  have hl : lv_has ls 6 [(0, .ref a0), (1, .int k1), (2, .int k2), (3, .int k3), (4, .int k4)] := hl
  refine W_q (fun QQ hQQ => ?_)
  rw [f_X12_mean] at h
  refine lv_aload_n hx hb dX12_mean_0 rfl (lv_at hl 0 rfl) ?_
  refine lv_iconst (v := 0) hx hb dX12_mean_1 (by decide) ?_
  refine va_put (D := (dC, dI)) (ci := 9) (v := .int 0) (ty := .int) (C := RX12) (T := TX12) (N := 30) hx hb hts ifX12_mean_X12 tyX12 tyX12_ok nmX12 hown hK hP hD hS 0 rfl rfl 0 (by decide) (hts (.fieldLink RX12 36 "HookPierModel" "thrown" "I") (List.mem_of_getElem? (i := 1) rfl)) (fun _ h9 => h9) rfl (by decide +kernel) rfl rfl (Nat.le_of_ble_eq_true rfl) dX12_mean_2 (fun H locs hP hD hS => ?_)
  have hP : va_P (dC, dI) vwCl ((a0, .inr (9, [.int 0, .int m_t.2.1, .int m_t.2.2, .ref a5, g11, g12, g13, g14, g15, g16, g17, g18, g19, g20, g21, .ref a6, g22, g23, g24, g25, g26, g27, g28, g29, g30, g31, g32, g33, g34, g35])) :: bX11 a5 uq kq q_q ([(a6, .inl (cB37, 26, .inl m_v))])) H := hP
  have hD : va_D A ((a0, .inr (9, [.int 0, .int m_t.2.1, .int m_t.2.2, .ref a5, g11, g12, g13, g14, g15, g16, g17, g18, g19, g20, g21, .ref a6, g22, g23, g24, g25, g26, g27, g28, g29, g30, g31, g32, g33, g34, g35])) :: bX11 a5 uq kq q_q ([(a6, .inl (cB37, 26, .inl m_v))])) := hD
  refine lv_aload_n hx hb dX12_mean_5 rfl (lv_at hl 0 rfl) ?_
  refine lv_aload_n hx hb dX12_mean_6 rfl (lv_at hl 0 rfl) ?_
  refine va_get (D := (dC, dI)) (ci := 9) (v := .ref a5) (C := RX12) (T := TX12) (N := 30) hx hb hts ifX12_mean_X12 hown hK hP 0 rfl rfl 3 (by decide) (hts (.fieldLink RX12 299 "HookPierModel" "pier" "LHookPierModel$Pier;") (List.mem_of_getElem? (i := 2) rfl)) (fun _ h9 => h9) rfl dX12_mean_7 ?_
  refine lv_ifnull hx hb dX12_mean_10 ?_
  refine lv_iconst (v := 1) hx hb dX12_mean_13 (by decide) ?_
  refine lv_goto (tgt := 18) hx hb dX12_mean_14 (by decide) ?_
  refine lv_iload_n hx hb dX12_mean_18 rfl (lv_at hl 1 rfl) ?_
  refine lv_iload_n hx hb dX12_mean_19 rfl (lv_at hl 2 rfl) ?_
  refine lv_iload_n hx hb dX12_mean_20 rfl (lv_at hl 3 rfl) ?_
  obtain ⟨o21, eo21⟩ : ∃ o, o = f_X12_refusesQuestion (1 : Int32) k1 k2 k3 q_q := ⟨_, rfl⟩
  have h := nm_of h o21 eo21
  refine cl_i (wc := ((a0, .inr (9, [.int 0, .int m_t.2.1, .int m_t.2.2, .ref a5, g11, g12, g13, g14, g15, g16, g17, g18, g19, g20, g21, .ref a6, g22, g23, g24, g25, g26, g27, g28, g29, g30, g31, g32, g33, g34, g35])) :: bX11 a5 uq kq q_q [])) (wr := ([(a6, .inl (cB37, 26, .inl m_v))])) (va_runV (As := [.int 1, .int k1, .int k2, .int k3]) (rest := []) ⟨hx, hb, hml, hown, hts⟩ (kfX12_refusesQuestion l dC dI a0 (1 : Int32) k1 k2 k3 a5 uq kq (.int 0) (.int m_t.2.1) (.int m_t.2.2) (g11) (g12) (g13) (g14) (g15) (g16) (g17) (g18) (g19) (g20) (g21) (.ref a6) (g22) (g23) (g24) (g25) (g26) (g27) (g28) (g29) (g30) (g31) (g32) (g33) (g34) (g35) q_q H.size o21 eo21.symm) (cwV 4 hts gfX12_mean_0 rfl rfl rfl (by decide +kernel) ⟨(Nat.le_of_ble_eq_true rfl), (Nat.le_of_ble_eq_true rfl)⟩) (PV (hP.sub (ws' := ((a0, .inr (9, [.int 0, .int m_t.2.1, .int m_t.2.2, .ref a5, g11, g12, g13, g14, g15, g16, g17, g18, g19, g20, g21, .ref a6, g22, g23, g24, g25, g26, g27, g28, g29, g30, g31, g32, g33, g34, g35])) :: bX11 a5 uq kq q_q [])) [0, 1, 2, 3, 4, 5, 6, 7, 8, 9, 10, 11, 12, 13, 14, 15] rfl) (hK.sub (tys' := (tX11 kq ([]))) [0, 1, 2, 3, 4, 5, 6, 7, 8, 9, 10, 11, 12, 13] rfl) (hD.sub (ws' := ((a0, .inr (9, [.int 0, .int m_t.2.1, .int m_t.2.2, .ref a5, g11, g12, g13, g14, g15, g16, g17, g18, g19, g20, g21, .ref a6, g22, g23, g24, g25, g26, g27, g28, g29, g30, g31, g32, g33, g34, g35])) :: bX11 a5 uq kq q_q [])) [0, 1, 2, 3, 4, 5, 6, 7, 8, 9, 10, 11, 12, 13, 14, 15] (by decide) rfl) hN 0 rfl rfl) rfl rfl hl.1 rfl (lv_room (Nat.le_of_ble_eq_true rfl)) dX12_mean_21 ⟨(Nat.le_of_ble_eq_true rfl), (Nat.le_of_ble_eq_true rfl)⟩) hP hD hK hS hA [0, 1, 2, 3, 4, 5, 6, 7, 8, 9, 10, 11, 12, 13, 14, 15] [16] rfl rfl (by decide) (by decide) (fun r21 _ H locs hw hP hD _ hS => ?_)
  obtain rfl := hw.symm
  have hP : va_P (dC, dI) vwCl ((a6, .inl (cB37, 26, .inl m_v)) :: (a0, .inr (9, [.int 0, .int m_t.2.1, .int m_t.2.2, .ref a5, g11, g12, g13, g14, g15, g16, g17, g18, g19, g20, g21, .ref a6, g22, g23, g24, g25, g26, g27, g28, g29, g30, g31, g32, g33, g34, g35])) :: bX11 a5 uq kq q_q []) H := hP
  have hD : va_D A ((a6, .inl (cB37, 26, .inl m_v)) :: (a0, .inr (9, [.int 0, .int m_t.2.1, .int m_t.2.2, .ref a5, g11, g12, g13, g14, g15, g16, g17, g18, g19, g20, g21, .ref a6, g22, g23, g24, g25, g26, g27, g28, g29, g30, g31, g32, g33, g34, g35])) :: bX11 a5 uq kq q_q []) := hD
  refine lv_istore (lv' := [(5, .int o21), (0, .ref a0), (1, .int k1), (2, .int k2), (3, .int k3), (4, .int k4)]) hx hb dX12_mean_24 hl (by decide) rfl (fun ls hl => ?_)
  refine lv_iload hx hb dX12_mean_26 (lv_at hl 0 rfl) ?_
  refine lv_if_le (tgt := 41) hx hb dX12_mean_28 (by decide) (fun c28 => ?_) (fun c28 => ?_)
  · have h := (if_pos c28).symm.trans h
    refine lv_aload_n hx hb dX12_mean_41 rfl (lv_at hl 1 rfl) ?_
    refine lv_aload_n hx hb dX12_mean_42 rfl (lv_at hl 1 rfl) ?_
    refine lv_aload_n hx hb dX12_mean_43 rfl (lv_at hl 1 rfl) ?_
    refine lv_iload_n hx hb dX12_mean_44 rfl (lv_at hl 2 rfl) ?_
    refine lv_iload_n hx hb dX12_mean_45 rfl (lv_at hl 3 rfl) ?_
    refine lv_iload_n hx hb dX12_mean_46 rfl (lv_at hl 4 rfl) ?_
    obtain ⟨o47, eo47⟩ : ∃ o, o = f_X12_question k1 k2 k3 q_q := ⟨_, rfl⟩
    have h := nm_of h o47 eo47
    refine cl_i (wc := ((a0, .inr (9, [.int 0, .int m_t.2.1, .int m_t.2.2, .ref a5, g11, g12, g13, g14, g15, g16, g17, g18, g19, g20, g21, .ref a6, g22, g23, g24, g25, g26, g27, g28, g29, g30, g31, g32, g33, g34, g35])) :: bX11 a5 uq kq q_q [])) (wr := ([(a6, .inl (cB37, 26, .inl m_v))])) (va_runV (As := [.int k1, .int k2, .int k3]) (rest := [.ref a0, .ref a0]) ⟨hx, hb, hml, hown, hts⟩ (kfX12_question l dC dI a0 k1 k2 k3 a5 uq kq (.int 0) (.int m_t.2.1) (.int m_t.2.2) (g11) (g12) (g13) (g14) (g15) (g16) (g17) (g18) (g19) (g20) (g21) (.ref a6) (g22) (g23) (g24) (g25) (g26) (g27) (g28) (g29) (g30) (g31) (g32) (g33) (g34) (g35) q_q H.size o47 eo47.symm) (cwV 3 hts gfX12_mean_1 rfl rfl rfl (by decide +kernel) ⟨(Nat.le_of_ble_eq_true rfl), (Nat.le_of_ble_eq_true rfl)⟩) (PV (hP.sub (ws' := ((a0, .inr (9, [.int 0, .int m_t.2.1, .int m_t.2.2, .ref a5, g11, g12, g13, g14, g15, g16, g17, g18, g19, g20, g21, .ref a6, g22, g23, g24, g25, g26, g27, g28, g29, g30, g31, g32, g33, g34, g35])) :: bX11 a5 uq kq q_q [])) [1, 2, 3, 4, 5, 6, 7, 8, 9, 10, 11, 12, 13, 14, 15, 16] rfl) (hK.sub (tys' := (tX11 kq ([]))) [0, 1, 2, 3, 4, 5, 6, 7, 8, 9, 10, 11, 12, 13] rfl) (hD.sub (ws' := ((a0, .inr (9, [.int 0, .int m_t.2.1, .int m_t.2.2, .ref a5, g11, g12, g13, g14, g15, g16, g17, g18, g19, g20, g21, .ref a6, g22, g23, g24, g25, g26, g27, g28, g29, g30, g31, g32, g33, g34, g35])) :: bX11 a5 uq kq q_q [])) [1, 2, 3, 4, 5, 6, 7, 8, 9, 10, 11, 12, 13, 14, 15, 16] (by decide) rfl) hN 0 rfl rfl) rfl rfl hl.1 rfl (lv_room (Nat.le_of_ble_eq_true rfl)) dX12_mean_47 ⟨(Nat.le_of_ble_eq_true rfl), (Nat.le_of_ble_eq_true rfl)⟩) hP hD hK hS hA [1, 2, 3, 4, 5, 6, 7, 8, 9, 10, 11, 12, 13, 14, 15, 16] [0] rfl rfl (by decide) (by decide) (fun r47 _ H locs hw hP hD _ hS => ?_)
    obtain rfl := hw.symm
    have hP : va_P (dC, dI) vwCl ((a6, .inl (cB37, 26, .inl m_v)) :: (a0, .inr (9, [.int 0, .int m_t.2.1, .int m_t.2.2, .ref a5, g11, g12, g13, g14, g15, g16, g17, g18, g19, g20, g21, .ref a6, g22, g23, g24, g25, g26, g27, g28, g29, g30, g31, g32, g33, g34, g35])) :: bX11 a5 uq kq q_q []) H := hP
    have hD : va_D A ((a6, .inl (cB37, 26, .inl m_v)) :: (a0, .inr (9, [.int 0, .int m_t.2.1, .int m_t.2.2, .ref a5, g11, g12, g13, g14, g15, g16, g17, g18, g19, g20, g21, .ref a6, g22, g23, g24, g25, g26, g27, g28, g29, g30, g31, g32, g33, g34, g35])) :: bX11 a5 uq kq q_q []) := hD
    obtain ⟨o50, eo50, h⟩ := bd_of h
    refine cl_l (wc := ((a0, .inr (9, [.int 0, .int m_t.2.1, .int m_t.2.2, .ref a5, g11, g12, g13, g14, g15, g16, g17, g18, g19, g20, g21, .ref a6, g22, g23, g24, g25, g26, g27, g28, g29, g30, g31, g32, g33, g34, g35])) :: bX11 a5 uq kq q_q ([(a6, .inl (cB37, 26, .inl m_v))]))) (wr := []) (va_runV (As := [.int o47]) (rest := [.ref a0]) ⟨hx, hb, hml, hown, hts⟩ (kfX12_meanOf l dC dI a0 o47 a5 a6 uq kq m_v (.int 0) (.int m_t.2.1) (.int m_t.2.2) (g11) (g12) (g13) (g14) (g15) (g16) (g17) (g18) (g19) (g20) (g21) (g22) (g23) (g24) (g25) (g26) (g27) (g28) (g29) (g30) (g31) (g32) (g33) (g34) (g35) q_q cB37 H.size o50 eo50) (cwV 1 hts gfX12_mean_2 rfl rfl rfl (by decide +kernel) ⟨(Nat.le_of_ble_eq_true rfl), (Nat.le_of_ble_eq_true rfl)⟩) (PV (hP.sub (ws' := ((a0, .inr (9, [.int 0, .int m_t.2.1, .int m_t.2.2, .ref a5, g11, g12, g13, g14, g15, g16, g17, g18, g19, g20, g21, .ref a6, g22, g23, g24, g25, g26, g27, g28, g29, g30, g31, g32, g33, g34, g35])) :: bX11 a5 uq kq q_q ([(a6, .inl (cB37, 26, .inl m_v))]))) [1, 2, 3, 4, 5, 6, 7, 8, 9, 10, 11, 12, 13, 14, 15, 16, 0] rfl) (hK.sub (tys' := (tX11 kq ((cB37, .int) :: []))) [0, 1, 2, 3, 4, 5, 6, 7, 8, 9, 10, 11, 12, 13, 14] rfl) (hD.sub (ws' := ((a0, .inr (9, [.int 0, .int m_t.2.1, .int m_t.2.2, .ref a5, g11, g12, g13, g14, g15, g16, g17, g18, g19, g20, g21, .ref a6, g22, g23, g24, g25, g26, g27, g28, g29, g30, g31, g32, g33, g34, g35])) :: bX11 a5 uq kq q_q ([(a6, .inl (cB37, 26, .inl m_v))]))) [1, 2, 3, 4, 5, 6, 7, 8, 9, 10, 11, 12, 13, 14, 15, 16, 0] (by decide) rfl) hN 0 rfl rfl) rfl rfl hl.1 rfl (lv_room (Nat.le_of_ble_eq_true rfl)) dX12_mean_50 ⟨(Nat.le_of_ble_eq_true rfl), (Nat.le_of_ble_eq_true rfl)⟩) hP hD hK hS hA [1, 2, 3, 4, 5, 6, 7, 8, 9, 10, 11, 12, 13, 14, 15, 16, 0] [] rfl rfl (by decide) (by decide) (fun r50 _ H locs hw hP hD _ hS => ?_)
    obtain rfl := hw.symm
    have hP : va_P (dC, dI) vwCl ((a0, .inr (9, [.int 0, .int m_t.2.1, .int m_t.2.2, .ref a5, g11, g12, g13, g14, g15, g16, g17, g18, g19, g20, g21, .ref a6, g22, g23, g24, g25, g26, g27, g28, g29, g30, g31, g32, g33, g34, g35])) :: bX11 a5 uq kq q_q ([(a6, .inl (cB37, 26, .inl m_v))])) H := hP
    have hD : va_D A ((a0, .inr (9, [.int 0, .int m_t.2.1, .int m_t.2.2, .ref a5, g11, g12, g13, g14, g15, g16, g17, g18, g19, g20, g21, .ref a6, g22, g23, g24, g25, g26, g27, g28, g29, g30, g31, g32, g33, g34, g35])) :: bX11 a5 uq kq q_q ([(a6, .inl (cB37, 26, .inl m_v))])) := hD
    refine lv_aload_n hx hb dX12_mean_53 rfl (lv_at hl 1 rfl) ?_
    obtain ⟨o54, eo54, h⟩ := bd_of h
    refine cl_l (wc := ((a0, .inr (9, [.int 0, .int m_t.2.1, .int m_t.2.2, .ref a5, g11, g12, g13, g14, g15, g16, g17, g18, g19, g20, g21, .ref a6, g22, g23, g24, g25, g26, g27, g28, g29, g30, g31, g32, g33, g34, g35])) :: bX11 a5 uq kq q_q ([(a6, .inl (cB37, 26, .inl m_v))]))) (wr := []) (va_runV (As := []) (rest := [.long o50, .ref a0]) ⟨hx, hb, hml, hown, hts⟩ (kfX12_whole l dC dI a0 a5 a6 uq kq m_v (.int 0) (.int m_t.2.1) (.int m_t.2.2) (g11) (g12) (g13) (g14) (g15) (g16) (g17) (g18) (g19) (g20) (g21) (g22) (g23) (g24) (g25) (g26) (g27) (g28) (g29) (g30) (g31) (g32) (g33) (g34) (g35) q_q cB37 H.size o54 eo54) (cwV 0 hts gfX12_mean_3 rfl rfl rfl (by decide +kernel) ⟨(Nat.le_of_ble_eq_true rfl), (Nat.le_of_ble_eq_true rfl)⟩) (PV (hP.sub (ws' := ((a0, .inr (9, [.int 0, .int m_t.2.1, .int m_t.2.2, .ref a5, g11, g12, g13, g14, g15, g16, g17, g18, g19, g20, g21, .ref a6, g22, g23, g24, g25, g26, g27, g28, g29, g30, g31, g32, g33, g34, g35])) :: bX11 a5 uq kq q_q ([(a6, .inl (cB37, 26, .inl m_v))]))) [0, 1, 2, 3, 4, 5, 6, 7, 8, 9, 10, 11, 12, 13, 14, 15, 16] rfl) (hK.sub (tys' := (tX11 kq ((cB37, .int) :: []))) [0, 1, 2, 3, 4, 5, 6, 7, 8, 9, 10, 11, 12, 13, 14] rfl) (hD.sub (ws' := ((a0, .inr (9, [.int 0, .int m_t.2.1, .int m_t.2.2, .ref a5, g11, g12, g13, g14, g15, g16, g17, g18, g19, g20, g21, .ref a6, g22, g23, g24, g25, g26, g27, g28, g29, g30, g31, g32, g33, g34, g35])) :: bX11 a5 uq kq q_q ([(a6, .inl (cB37, 26, .inl m_v))]))) [0, 1, 2, 3, 4, 5, 6, 7, 8, 9, 10, 11, 12, 13, 14, 15, 16] (by decide) rfl) hN 0 rfl rfl) rfl rfl hl.1 rfl (lv_room (Nat.le_of_ble_eq_true rfl)) dX12_mean_54 ⟨(Nat.le_of_ble_eq_true rfl), (Nat.le_of_ble_eq_true rfl)⟩) hP hD hK hS hA [0, 1, 2, 3, 4, 5, 6, 7, 8, 9, 10, 11, 12, 13, 14, 15, 16] [] rfl rfl (by decide) (by decide) (fun r54 _ H locs hw hP hD _ hS => ?_)
    obtain rfl := hw.symm
    have hP : va_P (dC, dI) vwCl ((a0, .inr (9, [.int 0, .int m_t.2.1, .int m_t.2.2, .ref a5, g11, g12, g13, g14, g15, g16, g17, g18, g19, g20, g21, .ref a6, g22, g23, g24, g25, g26, g27, g28, g29, g30, g31, g32, g33, g34, g35])) :: bX11 a5 uq kq q_q ([(a6, .inl (cB37, 26, .inl m_v))])) H := hP
    have hD : va_D A ((a0, .inr (9, [.int 0, .int m_t.2.1, .int m_t.2.2, .ref a5, g11, g12, g13, g14, g15, g16, g17, g18, g19, g20, g21, .ref a6, g22, g23, g24, g25, g26, g27, g28, g29, g30, g31, g32, g33, g34, g35])) :: bX11 a5 uq kq q_q ([(a6, .inl (cB37, 26, .inl m_v))])) := hD
    refine lv_iload hx hb dX12_mean_57 (lv_at hl 5 rfl) ?_
    obtain ⟨o59, eo59, h⟩ := bd_of h
    refine cl_l (wc := ([(a0, .inr (9, [.int 0, .int m_t.2.1, .int m_t.2.2, .ref a5, g11, g12, g13, g14, g15, g16, g17, g18, g19, g20, g21, .ref a6, g22, g23, g24, g25, g26, g27, g28, g29, g30, g31, g32, g33, g34, g35]))])) (wr := (bX11 a5 uq kq q_q ([(a6, .inl (cB37, 26, .inl m_v))]))) (va_runV (As := [.long o50, .long o54, .int k4]) (rest := []) ⟨hx, hb, hml, hown, hts⟩ (kfX12_fraction l dC dI a0 o50 o54 k4 ((0 : Int32), m_t.2) (.ref a5) (g11) (g12) (g13) (g14) (g15) (g16) (g17) (g18) (g19) (g20) (g21) (.ref a6) (g22) (g23) (g24) (g25) (g26) (g27) (g28) (g29) (g30) (g31) (g32) (g33) (g34) (g35) H.size o59 eo59) (cwV 3 hts gfX12_mean_4 rfl rfl rfl (by decide +kernel) ⟨(Nat.le_of_ble_eq_true rfl), (Nat.le_of_ble_eq_true rfl)⟩) (PV (hP.sub (ws' := ([(a0, .inr (9, [.int 0, .int m_t.2.1, .int m_t.2.2, .ref a5, g11, g12, g13, g14, g15, g16, g17, g18, g19, g20, g21, .ref a6, g22, g23, g24, g25, g26, g27, g28, g29, g30, g31, g32, g33, g34, g35]))])) [0] rfl) (hK.sub (tys' := ([])) [] rfl) (hD.sub (ws' := ([(a0, .inr (9, [.int 0, .int m_t.2.1, .int m_t.2.2, .ref a5, g11, g12, g13, g14, g15, g16, g17, g18, g19, g20, g21, .ref a6, g22, g23, g24, g25, g26, g27, g28, g29, g30, g31, g32, g33, g34, g35]))])) [0] (by decide) rfl) hN 0 rfl rfl) rfl rfl hl.1 rfl (lv_room (Nat.le_of_ble_eq_true rfl)) dX12_mean_59 ⟨(Nat.le_of_ble_eq_true rfl), (Nat.le_of_ble_eq_true rfl)⟩) hP hD hK hS hA [0] [1, 2, 3, 4, 5, 6, 7, 8, 9, 10, 11, 12, 13, 14, 15, 16] rfl rfl (by decide) (by decide) (fun r59 _ H locs hw hP hD _ hS => ?_)
    obtain rfl := hw
    have hP : va_P (dC, dI) vwCl (bX11 a5 uq kq q_q ([(a6, .inl (cB37, 26, .inl m_v)), (a0, .inr (9, [.int o59.2.1, .int o59.2.2.1, .int o59.2.2.2, .ref a5, g11, g12, g13, g14, g15, g16, g17, g18, g19, g20, g21, .ref a6, g22, g23, g24, g25, g26, g27, g28, g29, g30, g31, g32, g33, g34, g35]))])) H := hP
    have hD : va_D A (bX11 a5 uq kq q_q ([(a6, .inl (cB37, 26, .inl m_v)), (a0, .inr (9, [.int o59.2.1, .int o59.2.2.1, .int o59.2.2.2, .ref a5, g11, g12, g13, g14, g15, g16, g17, g18, g19, g20, g21, .ref a6, g22, g23, g24, g25, g26, g27, g28, g29, g30, g31, g32, g33, g34, g35]))])) := hD
    obtain rfl := Option.some.inj h
    have hP9 := hP.sub (ws' := ((a0, .inr (9, [.int o59.2.1, .int o59.2.2.1, .int o59.2.2.2, .ref a5, g11, g12, g13, g14, g15, g16, g17, g18, g19, g20, g21, .ref a6, g22, g23, g24, g25, g26, g27, g28, g29, g30, g31, g32, g33, g34, g35])) :: bX11 a5 uq kq q_q ([(a6, .inl (cB37, 26, .inl m_v))]))) [16, 0, 1, 2, 3, 4, 5, 6, 7, 8, 9, 10, 11, 12, 13, 14, 15] rfl
    have hD9 := hD.sub (ws' := ((a0, .inr (9, [.int o59.2.1, .int o59.2.2.1, .int o59.2.2.2, .ref a5, g11, g12, g13, g14, g15, g16, g17, g18, g19, g20, g21, .ref a6, g22, g23, g24, g25, g26, g27, g28, g29, g30, g31, g32, g33, g34, g35])) :: bX11 a5 uq kq q_q ([(a6, .inl (cB37, 26, .inl m_v))]))) [16, 0, 1, 2, 3, 4, 5, 6, 7, 8, 9, 10, 11, 12, 13, 14, 15] (by decide) rfl
    have hK9 := hK.sub (tys' := []) [] rfl
    rw [hQQ]
    exact W.lret (v := o59.1) hx hb hr (fun t ht hW => ⟨⟨o59.1, (), rfl, rfl, by rw [ht]; exact hP9, va_K.moved hW.alike hK9, hD9⟩, hS.F ht⟩) hS.2.2 dX12_mean_62
  · have h := (if_neg c28).symm.trans h
    refine lv_aload_n hx hb dX12_mean_31 rfl (lv_at hl 1 rfl) ?_
    refine lv_iload hx hb dX12_mean_32 (lv_at hl 0 rfl) ?_
    obtain ⟨o34, eo34⟩ : ∃ o, o = f_X12_refused o21 ((0 : Int32), m_t.2) := ⟨_, rfl⟩
    have h := nm_of h o34 eo34
    refine cl_i (wc := ([(a0, .inr (9, [.int 0, .int m_t.2.1, .int m_t.2.2, .ref a5, g11, g12, g13, g14, g15, g16, g17, g18, g19, g20, g21, .ref a6, g22, g23, g24, g25, g26, g27, g28, g29, g30, g31, g32, g33, g34, g35]))])) (wr := ((a6, .inl (cB37, 26, .inl m_v)) :: bX11 a5 uq kq q_q [])) (va_runV (As := [.int o21]) (rest := []) ⟨hx, hb, hml, hown, hts⟩ (kfX12_refused l dC dI a0 o21 ((0 : Int32), m_t.2) (.ref a5) (g11) (g12) (g13) (g14) (g15) (g16) (g17) (g18) (g19) (g20) (g21) (.ref a6) (g22) (g23) (g24) (g25) (g26) (g27) (g28) (g29) (g30) (g31) (g32) (g33) (g34) (g35) H.size o34 eo34.symm) (cwV 1 hts gfX12_mean_5 rfl rfl rfl (by decide +kernel) ⟨(Nat.le_of_ble_eq_true rfl), (Nat.le_of_ble_eq_true rfl)⟩) (PV (hP.sub (ws' := ([(a0, .inr (9, [.int 0, .int m_t.2.1, .int m_t.2.2, .ref a5, g11, g12, g13, g14, g15, g16, g17, g18, g19, g20, g21, .ref a6, g22, g23, g24, g25, g26, g27, g28, g29, g30, g31, g32, g33, g34, g35]))])) [1] rfl) (hK.sub (tys' := ([])) [] rfl) (hD.sub (ws' := ([(a0, .inr (9, [.int 0, .int m_t.2.1, .int m_t.2.2, .ref a5, g11, g12, g13, g14, g15, g16, g17, g18, g19, g20, g21, .ref a6, g22, g23, g24, g25, g26, g27, g28, g29, g30, g31, g32, g33, g34, g35]))])) [1] (by decide) rfl) hN 0 rfl rfl) rfl rfl hl.1 rfl (lv_room (Nat.le_of_ble_eq_true rfl)) dX12_mean_34 ⟨(Nat.le_of_ble_eq_true rfl), (Nat.le_of_ble_eq_true rfl)⟩) hP hD hK hS hA [1] [0, 2, 3, 4, 5, 6, 7, 8, 9, 10, 11, 12, 13, 14, 15, 16] rfl rfl (by decide) (by decide) (fun r34 _ H locs hw hP hD _ hS => ?_)
    obtain rfl := hw
    have hP : va_P (dC, dI) vwCl ((a6, .inl (cB37, 26, .inl m_v)) :: bX11 a5 uq kq q_q ([(a0, .inr (9, [.int o34.1, .int o34.2.1, .int o34.2.2, .ref a5, g11, g12, g13, g14, g15, g16, g17, g18, g19, g20, g21, .ref a6, g22, g23, g24, g25, g26, g27, g28, g29, g30, g31, g32, g33, g34, g35]))])) H := hP
    have hD : va_D A ((a6, .inl (cB37, 26, .inl m_v)) :: bX11 a5 uq kq q_q ([(a0, .inr (9, [.int o34.1, .int o34.2.1, .int o34.2.2, .ref a5, g11, g12, g13, g14, g15, g16, g17, g18, g19, g20, g21, .ref a6, g22, g23, g24, g25, g26, g27, g28, g29, g30, g31, g32, g33, g34, g35]))])) := hD
    refine lv_i2l (v := (-1)) hx hb dX12_mean_37 (by decide) ?_
    refine lv_goto (tgt := 62) hx hb dX12_mean_38 (by decide) ?_
    obtain rfl := Option.some.inj h
    have hP9 := hP.sub (ws' := ((a0, .inr (9, [.int o34.1, .int o34.2.1, .int o34.2.2, .ref a5, g11, g12, g13, g14, g15, g16, g17, g18, g19, g20, g21, .ref a6, g22, g23, g24, g25, g26, g27, g28, g29, g30, g31, g32, g33, g34, g35])) :: bX11 a5 uq kq q_q ([(a6, .inl (cB37, 26, .inl m_v))]))) [16, 1, 2, 3, 4, 5, 6, 7, 8, 9, 10, 11, 12, 13, 14, 15, 0] rfl
    have hD9 := hD.sub (ws' := ((a0, .inr (9, [.int o34.1, .int o34.2.1, .int o34.2.2, .ref a5, g11, g12, g13, g14, g15, g16, g17, g18, g19, g20, g21, .ref a6, g22, g23, g24, g25, g26, g27, g28, g29, g30, g31, g32, g33, g34, g35])) :: bX11 a5 uq kq q_q ([(a6, .inl (cB37, 26, .inl m_v))]))) [16, 1, 2, 3, 4, 5, 6, 7, 8, 9, 10, 11, 12, 13, 14, 15, 0] (by decide) rfl
    have hK9 := hK.sub (tys' := []) [] rfl
    rw [hQQ]
    exact W.lret (v := (-1 : Int64)) hx hb hr (fun t ht hW => ⟨⟨(-1 : Int64), (), rfl, rfl, by rw [ht]; exact hP9, va_K.moved hW.alike hK9, hD9⟩, hS.F ht⟩) hS.2.2 dX12_mean_62
theorem dX12_likeliest_0 : decode cX12_likeliest 0 = .ok (.aload_n 0, 1) := by decide +kernel
theorem dX12_likeliest_1 : decode cX12_likeliest 1 = .ok (.iconst 0, 1) := by decide +kernel
theorem dX12_likeliest_10 : decode cX12_likeliest 10 = .ok (.ifnull 7, 3) := by decide +kernel
theorem dX12_likeliest_100 : decode cX12_likeliest 100 = .ok (.iinc 9 1, 3) := by decide +kernel
theorem dX12_likeliest_103 : decode cX12_likeliest 103 = .ok (.goto (-46), 3) := by decide +kernel
theorem dX12_likeliest_106 : decode cX12_likeliest 106 = .ok (.aload_n 0, 1) := by decide +kernel
theorem dX12_likeliest_107 : decode cX12_likeliest 107 = .ok (.iload 6, 2) := by decide +kernel
theorem dX12_likeliest_109 : decode cX12_likeliest 109 = .ok (.invokevirtual 46, 3) := by decide +kernel
theorem dX12_likeliest_112 : decode cX12_likeliest 112 = .ok (.ireturn, 1) := by decide +kernel
theorem dX12_likeliest_13 : decode cX12_likeliest 13 = .ok (.iconst 1, 1) := by decide +kernel
theorem dX12_likeliest_14 : decode cX12_likeliest 14 = .ok (.goto 4, 3) := by decide +kernel
theorem dX12_likeliest_18 : decode cX12_likeliest 18 = .ok (.iload_n 1, 1) := by decide +kernel
theorem dX12_likeliest_19 : decode cX12_likeliest 19 = .ok (.iload_n 2, 1) := by decide +kernel
theorem dX12_likeliest_2 : decode cX12_likeliest 2 = .ok (.putfield 36, 3) := by decide +kernel
theorem dX12_likeliest_20 : decode cX12_likeliest 20 = .ok (.iload_n 3, 1) := by decide +kernel
theorem dX12_likeliest_21 : decode cX12_likeliest 21 = .ok (.invokevirtual 353, 3) := by decide +kernel
theorem dX12_likeliest_24 : decode cX12_likeliest 24 = .ok (.istore 4, 2) := by decide +kernel
theorem dX12_likeliest_26 : decode cX12_likeliest 26 = .ok (.iload 4, 2) := by decide +kernel
theorem dX12_likeliest_28 : decode cX12_likeliest 28 = .ok (.ifCond .le 10, 3) := by decide +kernel
theorem dX12_likeliest_31 : decode cX12_likeliest 31 = .ok (.aload_n 0, 1) := by decide +kernel
theorem dX12_likeliest_32 : decode cX12_likeliest 32 = .ok (.iload 4, 2) := by decide +kernel
theorem dX12_likeliest_34 : decode cX12_likeliest 34 = .ok (.invokevirtual 42, 3) := by decide +kernel
theorem dX12_likeliest_37 : decode cX12_likeliest 37 = .ok (.ireturn, 1) := by decide +kernel
theorem dX12_likeliest_38 : decode cX12_likeliest 38 = .ok (.aload_n 0, 1) := by decide +kernel
theorem dX12_likeliest_39 : decode cX12_likeliest 39 = .ok (.iload_n 1, 1) := by decide +kernel
theorem dX12_likeliest_40 : decode cX12_likeliest 40 = .ok (.iload_n 2, 1) := by decide +kernel
theorem dX12_likeliest_41 : decode cX12_likeliest 41 = .ok (.iload_n 3, 1) := by decide +kernel
theorem dX12_likeliest_42 : decode cX12_likeliest 42 = .ok (.invokevirtual 357, 3) := by decide +kernel
theorem dX12_likeliest_45 : decode cX12_likeliest 45 = .ok (.istore 5, 2) := by decide +kernel
theorem dX12_likeliest_47 : decode cX12_likeliest 47 = .ok (.bipush (-2), 2) := by decide +kernel
theorem dX12_likeliest_49 : decode cX12_likeliest 49 = .ok (.istore 6, 2) := by decide +kernel
theorem dX12_likeliest_5 : decode cX12_likeliest 5 = .ok (.aload_n 0, 1) := by decide +kernel
theorem dX12_likeliest_51 : decode cX12_likeliest 51 = .ok (.lconst 0, 1) := by decide +kernel
theorem dX12_likeliest_52 : decode cX12_likeliest 52 = .ok (.lstore 7, 2) := by decide +kernel
theorem dX12_likeliest_54 : decode cX12_likeliest 54 = .ok (.iconst 0, 1) := by decide +kernel
theorem dX12_likeliest_55 : decode cX12_likeliest 55 = .ok (.istore 9, 2) := by decide +kernel
theorem dX12_likeliest_57 : decode cX12_likeliest 57 = .ok (.iload 9, 2) := by decide +kernel
theorem dX12_likeliest_59 : decode cX12_likeliest 59 = .ok (.aload_n 0, 1) := by decide +kernel
theorem dX12_likeliest_6 : decode cX12_likeliest 6 = .ok (.aload_n 0, 1) := by decide +kernel
theorem dX12_likeliest_60 : decode cX12_likeliest 60 = .ok (.getfield 299, 3) := by decide +kernel
theorem dX12_likeliest_63 : decode cX12_likeliest 63 = .ok (.getfield 231, 3) := by decide +kernel
theorem dX12_likeliest_66 : decode cX12_likeliest 66 = .ok (.if_icmp .ge 40, 3) := by decide +kernel
theorem dX12_likeliest_69 : decode cX12_likeliest 69 = .ok (.aload_n 0, 1) := by decide +kernel
theorem dX12_likeliest_7 : decode cX12_likeliest 7 = .ok (.getfield 299, 3) := by decide +kernel
theorem dX12_likeliest_70 : decode cX12_likeliest 70 = .ok (.iload 9, 2) := by decide +kernel
theorem dX12_likeliest_72 : decode cX12_likeliest 72 = .ok (.iload 5, 2) := by decide +kernel
theorem dX12_likeliest_74 : decode cX12_likeliest 74 = .ok (.invokevirtual 349, 3) := by decide +kernel
theorem dX12_likeliest_77 : decode cX12_likeliest 77 = .ok (.lload 7, 2) := by decide +kernel
theorem dX12_likeliest_79 : decode cX12_likeliest 79 = .ok (.lcmp, 1) := by decide +kernel
theorem dX12_likeliest_80 : decode cX12_likeliest 80 = .ok (.ifCond .gt 6, 3) := by decide +kernel
theorem dX12_likeliest_83 : decode cX12_likeliest 83 = .ok (.goto 17, 3) := by decide +kernel
theorem dX12_likeliest_86 : decode cX12_likeliest 86 = .ok (.aload_n 0, 1) := by decide +kernel
theorem dX12_likeliest_87 : decode cX12_likeliest 87 = .ok (.iload 9, 2) := by decide +kernel
theorem dX12_likeliest_89 : decode cX12_likeliest 89 = .ok (.iload 5, 2) := by decide +kernel
theorem dX12_likeliest_91 : decode cX12_likeliest 91 = .ok (.invokevirtual 349, 3) := by decide +kernel
theorem dX12_likeliest_94 : decode cX12_likeliest 94 = .ok (.lstore 7, 2) := by decide +kernel
theorem dX12_likeliest_96 : decode cX12_likeliest 96 = .ok (.iload 9, 2) := by decide +kernel
theorem dX12_likeliest_98 : decode cX12_likeliest 98 = .ok (.istore 6, 2) := by decide +kernel
def vfX12_likeliest : List Cond := List.cons (.code yX12_likeliest cX12_likeliest 10 (some .int)) (apW [.fieldLink RX12 36 "HookPierModel" "thrown" "I", .fieldLink RX12 299 "HookPierModel" "pier" "LHookPierModel$Pier;", .methodLink RX12 353 yX12_refusesQuestion, .instanceMethod yX12_refusesQuestion, .selects RX12 yX12_refusesQuestion yX12_refusesQuestion, .initialized RX12, .methodLink RX12 357 yX12_question, .instanceMethod yX12_question, .selects RX12 yX12_question yX12_question, .methodLink RX12 46 yX12_good, .instanceMethod yX12_good, .selects RX12 yX12_good yX12_good, .methodLink RX12 349 yX12_oddsOf, .instanceMethod yX12_oddsOf, .selects RX12 yX12_oddsOf yX12_oddsOf, .methodLink RX12 42 yX12_refused, .instanceMethod yX12_refused, .selects RX12 yX12_refused yX12_refused] (apW wsX120 (apW wsX110 (apW vfX12_refusesQuestion (apW vfX12_question (apW vfX12_good (apW vfX12_oddsOf (vfX12_refused))))))))
theorem ifX12_likeliest_X12 : ∀ w ∈ wsX120, w ∈ vfX12_likeliest := fun _ h => (List.mem_cons_of_mem _ (List.mem_append_right _ (List.mem_append_left _ h)))
theorem ifX12_likeliest_X11 : ∀ w ∈ wsX110, w ∈ vfX12_likeliest := fun _ h => (List.mem_cons_of_mem _ (List.mem_append_right _ (List.mem_append_right _ (List.mem_append_left _ h))))
theorem qfX12_likeliest : Good vfX12_likeliest := gd_cons (by decide +kernel) (gd_app (gd_dec (by decide +kernel) : Good [.fieldLink RX12 36 "HookPierModel" "thrown" "I", .fieldLink RX12 299 "HookPierModel" "pier" "LHookPierModel$Pier;", .methodLink RX12 353 yX12_refusesQuestion, .instanceMethod yX12_refusesQuestion, .selects RX12 yX12_refusesQuestion yX12_refusesQuestion, .initialized RX12, .methodLink RX12 357 yX12_question, .instanceMethod yX12_question, .selects RX12 yX12_question yX12_question, .methodLink RX12 46 yX12_good, .instanceMethod yX12_good, .selects RX12 yX12_good yX12_good, .methodLink RX12 349 yX12_oddsOf, .instanceMethod yX12_oddsOf, .selects RX12 yX12_oddsOf yX12_oddsOf, .methodLink RX12 42 yX12_refused, .instanceMethod yX12_refused, .selects RX12 yX12_refused yX12_refused]) (gd_app qsX12 (gd_app qsX11 (gd_app qfX12_refusesQuestion (gd_app qfX12_question (gd_app qfX12_good (gd_app qfX12_oddsOf qfX12_refused)))))))
theorem gfX12_likeliest_0 : GoodIn vfX12_likeliest (wsV RX12 353 RX12 yX12_refusesQuestion vfX12_refusesQuestion) := goodIn_app (goodIn_r [.methodLink RX12 353 yX12_refusesQuestion, .instanceMethod yX12_refusesQuestion, .selects RX12 yX12_refusesQuestion yX12_refusesQuestion, .initialized RX12] [3, 4, 5, 6] rfl (by decide +kernel)) (goodIn_m (fun _ h => (List.mem_cons_of_mem _ (List.mem_append_right _ (List.mem_append_right _ (List.mem_append_right _ (List.mem_append_left _ h)))))) qfX12_refusesQuestion)
theorem gfX12_likeliest_1 : GoodIn vfX12_likeliest (wsV RX12 357 RX12 yX12_question vfX12_question) := goodIn_app (goodIn_r [.methodLink RX12 357 yX12_question, .instanceMethod yX12_question, .selects RX12 yX12_question yX12_question, .initialized RX12] [7, 8, 9, 6] rfl (by decide +kernel)) (goodIn_m (fun _ h => (List.mem_cons_of_mem _ (List.mem_append_right _ (List.mem_append_right _ (List.mem_append_right _ (List.mem_append_right _ (List.mem_append_left _ h))))))) qfX12_question)
theorem gfX12_likeliest_2 : GoodIn vfX12_likeliest (wsV RX12 46 RX12 yX12_good vfX12_good) := goodIn_app (goodIn_r [.methodLink RX12 46 yX12_good, .instanceMethod yX12_good, .selects RX12 yX12_good yX12_good, .initialized RX12] [10, 11, 12, 6] rfl (by decide +kernel)) (goodIn_m (fun _ h => (List.mem_cons_of_mem _ (List.mem_append_right _ (List.mem_append_right _ (List.mem_append_right _ (List.mem_append_right _ (List.mem_append_right _ (List.mem_append_left _ h)))))))) qfX12_good)
theorem gfX12_likeliest_3 : GoodIn vfX12_likeliest (wsV RX12 349 RX12 yX12_oddsOf vfX12_oddsOf) := goodIn_app (goodIn_r [.methodLink RX12 349 yX12_oddsOf, .instanceMethod yX12_oddsOf, .selects RX12 yX12_oddsOf yX12_oddsOf, .initialized RX12] [13, 14, 15, 6] rfl (by decide +kernel)) (goodIn_m (fun _ h => (List.mem_cons_of_mem _ (List.mem_append_right _ (List.mem_append_right _ (List.mem_append_right _ (List.mem_append_right _ (List.mem_append_right _ (List.mem_append_right _ (List.mem_append_left _ h))))))))) qfX12_oddsOf)
theorem gfX12_likeliest_4 : GoodIn vfX12_likeliest (wsV RX12 42 RX12 yX12_refused vfX12_refused) := goodIn_app (goodIn_r [.methodLink RX12 42 yX12_refused, .instanceMethod yX12_refused, .selects RX12 yX12_refused yX12_refused, .initialized RX12] [16, 17, 18, 6] rfl (by decide +kernel)) (goodIn_m (fun _ h => (List.mem_cons_of_mem _ (List.mem_append_right _ (List.mem_append_right _ (List.mem_append_right _ (List.mem_append_right _ (List.mem_append_right _ (List.mem_append_right _ (List.mem_append_right _ h))))))))) qfX12_refused)
set_option maxHeartbeats 2000000 in
set_option maxRecDepth 100000 in
theorem kfX12_likeliest (l : Launch) (dC : Nat → ClassId) (dI : Nat → Nat → Nat) (a0 : Nat) (k1 : Int32) (k2 : Int32) (k3 : Int32) (a4 : Nat) (a5 : Nat) (uq : Nat → Nat) (kq : Nat → ClassId) (m_t : TX12_t) (m_v : TX12_v) (g10 : Value) (g11 : Value) (g12 : Value) (g13 : Value) (g14 : Value) (g15 : Value) (g16 : Value) (g17 : Value) (g18 : Value) (g19 : Value) (g20 : Value) (g21 : Value) (g22 : Value) (g23 : Value) (g24 : Value) (g25 : Value) (g26 : Value) (g27 : Value) (g28 : Value) (g29 : Value) (g30 : Value) (g31 : Value) (g32 : Value) (g33 : Value) (g34 : Value) (q_q : TX11_q) (cB36 : ClassId) (sz : Nat) (out : (Int32 × TX12_t)) (h : f_X12_likeliest k1 k2 k3 m_t m_v q_q = some out) : Met l yX12_likeliest vfX12_likeliest ({ frames := 5, cells := 0, slots := 0, locals := 118 }) (PC (dC, dI) [.ref a0, .int k1, .int k2, .int k3] sz ((a0, .inr (9, [.int m_t.1, .int m_t.2.1, .int m_t.2.2, .ref a4, g10, g11, g12, g13, g14, g15, g16, g17, g18, g19, g20, .ref a5, g21, g22, g23, g24, g25, g26, g27, g28, g29, g30, g31, g32, g33, g34])) :: bX11 a4 uq kq q_q ([(a5, .inl (cB36, 26, .inl m_v))])) (tX11 kq ((cB36, .int) :: []))) (va_Qi (S := Unit) (fun (r : Int32) _ => r = out.1) (fun _ t => BC (dC, dI) (va_A ((a0, .inr (9, [.int m_t.1, .int m_t.2.1, .int m_t.2.2, .ref a4, g10, g11, g12, g13, g14, g15, g16, g17, g18, g19, g20, .ref a5, g21, g22, g23, g24, g25, g26, g27, g28, g29, g30, g31, g32, g33, g34])) :: bX11 a4 uq kq q_q ([(a5, .inl (cB36, 26, .inl m_v))])) sz) ((a0, .inr (9, [.int out.2.1, .int out.2.2.1, .int out.2.2.2, .ref a4, g10, g11, g12, g13, g14, g15, g16, g17, g18, g19, g20, .ref a5, g21, g22, g23, g24, g25, g26, g27, g28, g29, g30, g31, g32, g33, g34])) :: bX11 a4 uq kq q_q ([(a5, .inl (cB36, 26, .inl m_v))])) [] t) (va_A ((a0, .inr (9, [.int m_t.1, .int m_t.2.1, .int m_t.2.2, .ref a4, g10, g11, g12, g13, g14, g15, g16, g17, g18, g19, g20, .ref a5, g21, g22, g23, g24, g25, g26, g27, g28, g29, g30, g31, g32, g33, g34])) :: bX11 a4 uq kq q_q ([(a5, .inl (cB36, 26, .inl m_v))])) sz)) 0 0 (va_A ((a0, .inr (9, [.int m_t.1, .int m_t.2.1, .int m_t.2.2, .ref a4, g10, g11, g12, g13, g14, g15, g16, g17, g18, g19, g20, .ref a5, g21, g22, g23, g24, g25, g26, g27, g28, g29, g30, g31, g32, g33, g34])) :: bX11 a4 uq kq q_q ([(a5, .inl (cB36, 26, .inl m_v))])) sz) := by
  refine Met.ofW (cc := cX12_likeliest) (maxL := 10) (ret := (some .int)) (by decide) rfl ?_
  intro p e s m args below meth c s₁ B0 hml hv
  obtain ⟨rfl, hsz, hP, hK, hD0, hN⟩ := hv
  have hx := B0.exec
  have hb := B0.bytes
  have hr := B0.returns
  have hts := atoms_spec (ws := vfX12_likeliest) B0.pre
  have hown : s.vm.findClass RX12 = some m.cls := findClass_of_methodNamed B0.named
  have hlocks := B0.notSynchronized
  subst hsz
  have hD := hD0.self (sz := s.heap.size)
  generalize hAe : va_A ((a0, .inr (9, [.int m_t.1, .int m_t.2.1, .int m_t.2.2, .ref a4, g10, g11, g12, g13, g14, g15, g16, g17, g18, g19, g20, .ref a5, g21, g22, g23, g24, g25, g26, g27, g28, g29, g30, g31, g32, g33, g34])) :: bX11 a4 uq kq q_q ([(a5, .inl (cB36, 26, .inl m_v))])) s.heap.size = A at hD ⊢
  have hA : ∀ q : Nat, s.heap.size ≤ q → A q := fun q h => by rw [← hAe]; exact Or.inr h
  have hS : va_S A s.heap s.heap [] := va_S.rf
  have hP : va_P (dC, dI) vwCl ((a0, .inr (9, [.int m_t.1, .int m_t.2.1, .int m_t.2.2, .ref a4, g10, g11, g12, g13, g14, g15, g16, g17, g18, g19, g20, .ref a5, g21, g22, g23, g24, g25, g26, g27, g28, g29, g30, g31, g32, g33, g34])) :: bX11 a4 uq kq q_q ([(a5, .inl (cB36, 26, .inl m_v))])) s.heap := hP
  have hl := lv_entry ([.ref a0, .int k1, .int k2, .int k3]) (n := 10) (Nat.le_of_ble_eq_true rfl)
  rw [lg_entry_eq]
  generalize (lg_sl ([.ref a0, .int k1, .int k2, .int k3]) ++ List.replicate (10 - (lg_sl ([.ref a0, .int k1, .int k2, .int k3])).length) Slot.unset).toArray = ls at hl ⊢
  have hl : lv_has ls 10 [(0, .ref a0), (1, .int k1), (2, .int k2), (3, .int k3)] := hl
  refine W_q (fun QQ hQQ => ?_)
  rw [f_X12_likeliest] at h
  refine lv_aload_n hx hb dX12_likeliest_0 rfl (lv_at hl 0 rfl) ?_
  refine lv_iconst (v := 0) hx hb dX12_likeliest_1 (by decide) ?_
  refine va_put (D := (dC, dI)) (ci := 9) (v := .int 0) (ty := .int) (C := RX12) (T := TX12) (N := 30) hx hb hts ifX12_likeliest_X12 tyX12 tyX12_ok nmX12 hown hK hP hD hS 0 rfl rfl 0 (by decide) (hts (.fieldLink RX12 36 "HookPierModel" "thrown" "I") (List.mem_of_getElem? (i := 1) rfl)) (fun _ h9 => h9) rfl (by decide +kernel) rfl rfl (Nat.le_of_ble_eq_true rfl) dX12_likeliest_2 (fun H locs hP hD hS => ?_)
  have hP : va_P (dC, dI) vwCl ((a0, .inr (9, [.int 0, .int m_t.2.1, .int m_t.2.2, .ref a4, g10, g11, g12, g13, g14, g15, g16, g17, g18, g19, g20, .ref a5, g21, g22, g23, g24, g25, g26, g27, g28, g29, g30, g31, g32, g33, g34])) :: bX11 a4 uq kq q_q ([(a5, .inl (cB36, 26, .inl m_v))])) H := hP
  have hD : va_D A ((a0, .inr (9, [.int 0, .int m_t.2.1, .int m_t.2.2, .ref a4, g10, g11, g12, g13, g14, g15, g16, g17, g18, g19, g20, .ref a5, g21, g22, g23, g24, g25, g26, g27, g28, g29, g30, g31, g32, g33, g34])) :: bX11 a4 uq kq q_q ([(a5, .inl (cB36, 26, .inl m_v))])) := hD
  refine lv_aload_n hx hb dX12_likeliest_5 rfl (lv_at hl 0 rfl) ?_
  refine lv_aload_n hx hb dX12_likeliest_6 rfl (lv_at hl 0 rfl) ?_
  refine va_get (D := (dC, dI)) (ci := 9) (v := .ref a4) (C := RX12) (T := TX12) (N := 30) hx hb hts ifX12_likeliest_X12 hown hK hP 0 rfl rfl 3 (by decide) (hts (.fieldLink RX12 299 "HookPierModel" "pier" "LHookPierModel$Pier;") (List.mem_of_getElem? (i := 2) rfl)) (fun _ h9 => h9) rfl dX12_likeliest_7 ?_
  refine lv_ifnull hx hb dX12_likeliest_10 ?_
  refine lv_iconst (v := 1) hx hb dX12_likeliest_13 (by decide) ?_
  refine lv_goto (tgt := 18) hx hb dX12_likeliest_14 (by decide) ?_
  refine lv_iload_n hx hb dX12_likeliest_18 rfl (lv_at hl 1 rfl) ?_
  refine lv_iload_n hx hb dX12_likeliest_19 rfl (lv_at hl 2 rfl) ?_
  refine lv_iload_n hx hb dX12_likeliest_20 rfl (lv_at hl 3 rfl) ?_
  obtain ⟨o21, eo21⟩ : ∃ o, o = f_X12_refusesQuestion (1 : Int32) k1 k2 k3 q_q := ⟨_, rfl⟩
  have h := nm_of h o21 eo21
  refine cl_i (wc := ((a0, .inr (9, [.int 0, .int m_t.2.1, .int m_t.2.2, .ref a4, g10, g11, g12, g13, g14, g15, g16, g17, g18, g19, g20, .ref a5, g21, g22, g23, g24, g25, g26, g27, g28, g29, g30, g31, g32, g33, g34])) :: bX11 a4 uq kq q_q [])) (wr := ([(a5, .inl (cB36, 26, .inl m_v))])) (va_runV (As := [.int 1, .int k1, .int k2, .int k3]) (rest := []) ⟨hx, hb, hml, hown, hts⟩ (kfX12_refusesQuestion l dC dI a0 (1 : Int32) k1 k2 k3 a4 uq kq (.int 0) (.int m_t.2.1) (.int m_t.2.2) (g10) (g11) (g12) (g13) (g14) (g15) (g16) (g17) (g18) (g19) (g20) (.ref a5) (g21) (g22) (g23) (g24) (g25) (g26) (g27) (g28) (g29) (g30) (g31) (g32) (g33) (g34) q_q H.size o21 eo21.symm) (cwV 4 hts gfX12_likeliest_0 rfl rfl rfl (by decide +kernel) ⟨(Nat.le_of_ble_eq_true rfl), (Nat.le_of_ble_eq_true rfl)⟩) (PV (hP.sub (ws' := ((a0, .inr (9, [.int 0, .int m_t.2.1, .int m_t.2.2, .ref a4, g10, g11, g12, g13, g14, g15, g16, g17, g18, g19, g20, .ref a5, g21, g22, g23, g24, g25, g26, g27, g28, g29, g30, g31, g32, g33, g34])) :: bX11 a4 uq kq q_q [])) [0, 1, 2, 3, 4, 5, 6, 7, 8, 9, 10, 11, 12, 13, 14, 15] rfl) (hK.sub (tys' := (tX11 kq ([]))) [0, 1, 2, 3, 4, 5, 6, 7, 8, 9, 10, 11, 12, 13] rfl) (hD.sub (ws' := ((a0, .inr (9, [.int 0, .int m_t.2.1, .int m_t.2.2, .ref a4, g10, g11, g12, g13, g14, g15, g16, g17, g18, g19, g20, .ref a5, g21, g22, g23, g24, g25, g26, g27, g28, g29, g30, g31, g32, g33, g34])) :: bX11 a4 uq kq q_q [])) [0, 1, 2, 3, 4, 5, 6, 7, 8, 9, 10, 11, 12, 13, 14, 15] (by decide) rfl) hN 0 rfl rfl) rfl rfl hl.1 rfl (lv_room (Nat.le_of_ble_eq_true rfl)) dX12_likeliest_21 ⟨(Nat.le_of_ble_eq_true rfl), (Nat.le_of_ble_eq_true rfl)⟩) hP hD hK hS hA [0, 1, 2, 3, 4, 5, 6, 7, 8, 9, 10, 11, 12, 13, 14, 15] [16] rfl rfl (by decide) (by decide) (fun r21 _ H locs hw hP hD _ hS => ?_)
  obtain rfl := hw.symm
  have hP : va_P (dC, dI) vwCl ((a5, .inl (cB36, 26, .inl m_v)) :: (a0, .inr (9, [.int 0, .int m_t.2.1, .int m_t.2.2, .ref a4, g10, g11, g12, g13, g14, g15, g16, g17, g18, g19, g20, .ref a5, g21, g22, g23, g24, g25, g26, g27, g28, g29, g30, g31, g32, g33, g34])) :: bX11 a4 uq kq q_q []) H := hP
  have hD : va_D A ((a5, .inl (cB36, 26, .inl m_v)) :: (a0, .inr (9, [.int 0, .int m_t.2.1, .int m_t.2.2, .ref a4, g10, g11, g12, g13, g14, g15, g16, g17, g18, g19, g20, .ref a5, g21, g22, g23, g24, g25, g26, g27, g28, g29, g30, g31, g32, g33, g34])) :: bX11 a4 uq kq q_q []) := hD
  refine lv_istore (lv' := [(4, .int o21), (0, .ref a0), (1, .int k1), (2, .int k2), (3, .int k3)]) hx hb dX12_likeliest_24 hl (by decide) rfl (fun ls hl => ?_)
  refine lv_iload hx hb dX12_likeliest_26 (lv_at hl 0 rfl) ?_
  refine lv_if_le (tgt := 38) hx hb dX12_likeliest_28 (by decide) (fun c28 => ?_) (fun c28 => ?_)
  · have h := (if_pos c28).symm.trans h
    refine lv_aload_n hx hb dX12_likeliest_38 rfl (lv_at hl 1 rfl) ?_
    refine lv_iload_n hx hb dX12_likeliest_39 rfl (lv_at hl 2 rfl) ?_
    refine lv_iload_n hx hb dX12_likeliest_40 rfl (lv_at hl 3 rfl) ?_
    refine lv_iload_n hx hb dX12_likeliest_41 rfl (lv_at hl 4 rfl) ?_
    obtain ⟨o42, eo42⟩ : ∃ o, o = f_X12_question k1 k2 k3 q_q := ⟨_, rfl⟩
    have h := nm_of h o42 eo42
    refine cl_i (wc := ((a0, .inr (9, [.int 0, .int m_t.2.1, .int m_t.2.2, .ref a4, g10, g11, g12, g13, g14, g15, g16, g17, g18, g19, g20, .ref a5, g21, g22, g23, g24, g25, g26, g27, g28, g29, g30, g31, g32, g33, g34])) :: bX11 a4 uq kq q_q [])) (wr := ([(a5, .inl (cB36, 26, .inl m_v))])) (va_runV (As := [.int k1, .int k2, .int k3]) (rest := []) ⟨hx, hb, hml, hown, hts⟩ (kfX12_question l dC dI a0 k1 k2 k3 a4 uq kq (.int 0) (.int m_t.2.1) (.int m_t.2.2) (g10) (g11) (g12) (g13) (g14) (g15) (g16) (g17) (g18) (g19) (g20) (.ref a5) (g21) (g22) (g23) (g24) (g25) (g26) (g27) (g28) (g29) (g30) (g31) (g32) (g33) (g34) q_q H.size o42 eo42.symm) (cwV 3 hts gfX12_likeliest_1 rfl rfl rfl (by decide +kernel) ⟨(Nat.le_of_ble_eq_true rfl), (Nat.le_of_ble_eq_true rfl)⟩) (PV (hP.sub (ws' := ((a0, .inr (9, [.int 0, .int m_t.2.1, .int m_t.2.2, .ref a4, g10, g11, g12, g13, g14, g15, g16, g17, g18, g19, g20, .ref a5, g21, g22, g23, g24, g25, g26, g27, g28, g29, g30, g31, g32, g33, g34])) :: bX11 a4 uq kq q_q [])) [1, 2, 3, 4, 5, 6, 7, 8, 9, 10, 11, 12, 13, 14, 15, 16] rfl) (hK.sub (tys' := (tX11 kq ([]))) [0, 1, 2, 3, 4, 5, 6, 7, 8, 9, 10, 11, 12, 13] rfl) (hD.sub (ws' := ((a0, .inr (9, [.int 0, .int m_t.2.1, .int m_t.2.2, .ref a4, g10, g11, g12, g13, g14, g15, g16, g17, g18, g19, g20, .ref a5, g21, g22, g23, g24, g25, g26, g27, g28, g29, g30, g31, g32, g33, g34])) :: bX11 a4 uq kq q_q [])) [1, 2, 3, 4, 5, 6, 7, 8, 9, 10, 11, 12, 13, 14, 15, 16] (by decide) rfl) hN 0 rfl rfl) rfl rfl hl.1 rfl (lv_room (Nat.le_of_ble_eq_true rfl)) dX12_likeliest_42 ⟨(Nat.le_of_ble_eq_true rfl), (Nat.le_of_ble_eq_true rfl)⟩) hP hD hK hS hA [1, 2, 3, 4, 5, 6, 7, 8, 9, 10, 11, 12, 13, 14, 15, 16] [0] rfl rfl (by decide) (by decide) (fun r42 _ H locs hw hP hD _ hS => ?_)
    obtain rfl := hw.symm
    have hP : va_P (dC, dI) vwCl ((a5, .inl (cB36, 26, .inl m_v)) :: (a0, .inr (9, [.int 0, .int m_t.2.1, .int m_t.2.2, .ref a4, g10, g11, g12, g13, g14, g15, g16, g17, g18, g19, g20, .ref a5, g21, g22, g23, g24, g25, g26, g27, g28, g29, g30, g31, g32, g33, g34])) :: bX11 a4 uq kq q_q []) H := hP
    have hD : va_D A ((a5, .inl (cB36, 26, .inl m_v)) :: (a0, .inr (9, [.int 0, .int m_t.2.1, .int m_t.2.2, .ref a4, g10, g11, g12, g13, g14, g15, g16, g17, g18, g19, g20, .ref a5, g21, g22, g23, g24, g25, g26, g27, g28, g29, g30, g31, g32, g33, g34])) :: bX11 a4 uq kq q_q []) := hD
    refine lv_istore (lv' := [(5, .int o42), (4, .int o21), (0, .ref a0), (1, .int k1), (2, .int k2), (3, .int k3)]) hx hb dX12_likeliest_45 hl (by decide) rfl (fun ls hl => ?_)
    refine lv_bipush (v := (-2)) hx hb dX12_likeliest_47 (by decide) ?_
    refine lv_istore (lv' := [(6, .int (-2)), (5, .int o42), (4, .int o21), (0, .ref a0), (1, .int k1), (2, .int k2), (3, .int k3)]) hx hb dX12_likeliest_49 hl (by decide) rfl (fun ls hl => ?_)
    refine lv_lconst (v := 0) hx hb dX12_likeliest_51 (by decide) ?_
    refine lv_lstore (lv' := [(7, .long 0), (6, .int (-2)), (5, .int o42), (4, .int o21), (0, .ref a0), (1, .int k1), (2, .int k2), (3, .int k3)]) hx hb dX12_likeliest_52 hl (by decide) rfl (fun ls hl => ?_)
    refine lv_iconst (v := 0) hx hb dX12_likeliest_54 (by decide) ?_
    refine lv_istore (lv' := [(9, .int 0), (7, .long 0), (6, .int (-2)), (5, .int o42), (4, .int o21), (0, .ref a0), (1, .int k1), (2, .int k2), (3, .int k3)]) hx hb dX12_likeliest_55 hl (by decide) rfl (fun ls hl => ?_)
    have L57 : ∀ (n57 : Nat) (v57_l9 : Int32) (v57_l7 : Int64) (v57_l6 : Int32) (H : Heap) (locs : List Loc) (ls : Array Slot), f_X12_likeliest_L57 m_t m_v q_q o42 n57 v57_l9 v57_l7 v57_l6 = some out → va_P (dC, dI) vwCl ((a5, .inl (cB36, 26, .inl m_v)) :: (a0, .inr (9, [.int 0, .int m_t.2.1, .int m_t.2.2, .ref a4, g10, g11, g12, g13, g14, g15, g16, g17, g18, g19, g20, .ref a5, g21, g22, g23, g24, g25, g26, g27, g28, g29, g30, g31, g32, g33, g34])) :: bX11 a4 uq kq q_q []) H → va_D A ((a5, .inl (cB36, 26, .inl m_v)) :: (a0, .inr (9, [.int 0, .int m_t.2.1, .int m_t.2.2, .ref a4, g10, g11, g12, g13, g14, g15, g16, g17, g18, g19, g20, .ref a5, g21, g22, g23, g24, g25, g26, g27, g28, g29, g30, g31, g32, g33, g34])) :: bX11 a4 uq kq q_q []) → va_S A s.heap H locs → lv_has ls 10 [(9, .int v57_l9), (7, .long v57_l7), (6, .int v57_l6), (5, .int o42), (0, .ref a0)] → W p l e (headSpec vfX12_likeliest { frames := 5, cells := 0, slots := 0, locals := 118 }).room s m ([.ref a0, .int k1, .int k2, .int k3]).toArray below meth c H locs 0 0 QQ (F0 m 57 ls []) := by
      intro n57
      induction n57 with
      | zero =>
        intro v57_l9 v57_l7 v57_l6 H locs ls h  _ _ _ _
        rw [f_X12_likeliest_L57] at h
        cases h
      | succ n57 ih57 =>
        intro v57_l9 v57_l7 v57_l6 H locs ls h  hP hD hS hl
        rw [f_X12_likeliest_L57] at h
        refine lv_iload hx hb dX12_likeliest_57 (lv_at hl 0 rfl) ?_
        refine lv_aload_n hx hb dX12_likeliest_59 rfl (lv_at hl 4 rfl) ?_
        refine va_get (D := (dC, dI)) (ci := 9) (v := .ref a4) (C := RX12) (T := TX12) (N := 30) hx hb hts ifX12_likeliest_X12 hown hK hP 1 rfl rfl 3 (by decide) (hts (.fieldLink RX12 299 "HookPierModel" "pier" "LHookPierModel$Pier;") (List.mem_of_getElem? (i := 2) rfl)) (fun _ h9 => h9) rfl dX12_likeliest_60 ?_
        refine va_getN (D := (dC, dI)) (ci := 8) (v := .int q_q.2.2.2.2.2.2.1) (C := RX11) (T := TX11) (N := 24) hx hb hts ifX12_likeliest_X11 hown hK hP 2 rfl rfl 6 (by decide) (va_Nw.use rfl (hN.1 (.fieldLinkNest RX12 231 "HookPierModel$Pier" "answers" "I" "HookPierModel") (List.mem_of_getElem? (i := 28) rfl))) (fun _ h9 => h9) rfl dX12_likeliest_63 ?_
        refine lv_icmp_ge (tgt := 106) hx hb dX12_likeliest_66 (by decide) (fun c66 => ?_) (fun c66 => ?_)
        · have h := (if_pos c66).symm.trans h
          refine lv_aload_n hx hb dX12_likeliest_106 rfl (lv_at hl 4 rfl) ?_
          refine lv_iload hx hb dX12_likeliest_107 (lv_at hl 2 rfl) ?_
          obtain ⟨o109, eo109⟩ : ∃ o, o = f_X12_good v57_l6 ((0 : Int32), m_t.2) := ⟨_, rfl⟩
          have h := nm_of h o109 eo109
          refine cl_i (wc := ([(a0, .inr (9, [.int 0, .int m_t.2.1, .int m_t.2.2, .ref a4, g10, g11, g12, g13, g14, g15, g16, g17, g18, g19, g20, .ref a5, g21, g22, g23, g24, g25, g26, g27, g28, g29, g30, g31, g32, g33, g34]))])) (wr := ((a5, .inl (cB36, 26, .inl m_v)) :: bX11 a4 uq kq q_q [])) (va_runV (As := [.int v57_l6]) (rest := []) ⟨hx, hb, hml, hown, hts⟩ (kfX12_good l dC dI a0 v57_l6 ((0 : Int32), m_t.2) (.ref a4) (g10) (g11) (g12) (g13) (g14) (g15) (g16) (g17) (g18) (g19) (g20) (.ref a5) (g21) (g22) (g23) (g24) (g25) (g26) (g27) (g28) (g29) (g30) (g31) (g32) (g33) (g34) H.size o109 eo109.symm) (cwV 1 hts gfX12_likeliest_2 rfl rfl rfl (by decide +kernel) ⟨(Nat.le_of_ble_eq_true rfl), (Nat.le_of_ble_eq_true rfl)⟩) (PV (hP.sub (ws' := ([(a0, .inr (9, [.int 0, .int m_t.2.1, .int m_t.2.2, .ref a4, g10, g11, g12, g13, g14, g15, g16, g17, g18, g19, g20, .ref a5, g21, g22, g23, g24, g25, g26, g27, g28, g29, g30, g31, g32, g33, g34]))])) [1] rfl) (hK.sub (tys' := ([])) [] rfl) (hD.sub (ws' := ([(a0, .inr (9, [.int 0, .int m_t.2.1, .int m_t.2.2, .ref a4, g10, g11, g12, g13, g14, g15, g16, g17, g18, g19, g20, .ref a5, g21, g22, g23, g24, g25, g26, g27, g28, g29, g30, g31, g32, g33, g34]))])) [1] (by decide) rfl) hN 0 rfl rfl) rfl rfl hl.1 rfl (lv_room (Nat.le_of_ble_eq_true rfl)) dX12_likeliest_109 ⟨(Nat.le_of_ble_eq_true rfl), (Nat.le_of_ble_eq_true rfl)⟩) hP hD hK hS hA [1] [0, 2, 3, 4, 5, 6, 7, 8, 9, 10, 11, 12, 13, 14, 15, 16] rfl rfl (by decide) (by decide) (fun r109 _ H locs hw hP hD _ hS => ?_)
          obtain rfl := hw
          have hP : va_P (dC, dI) vwCl ((a5, .inl (cB36, 26, .inl m_v)) :: bX11 a4 uq kq q_q ([(a0, .inr (9, [.int o109.2.1, .int o109.2.2.1, .int o109.2.2.2, .ref a4, g10, g11, g12, g13, g14, g15, g16, g17, g18, g19, g20, .ref a5, g21, g22, g23, g24, g25, g26, g27, g28, g29, g30, g31, g32, g33, g34]))])) H := hP
          have hD : va_D A ((a5, .inl (cB36, 26, .inl m_v)) :: bX11 a4 uq kq q_q ([(a0, .inr (9, [.int o109.2.1, .int o109.2.2.1, .int o109.2.2.2, .ref a4, g10, g11, g12, g13, g14, g15, g16, g17, g18, g19, g20, .ref a5, g21, g22, g23, g24, g25, g26, g27, g28, g29, g30, g31, g32, g33, g34]))])) := hD
          obtain rfl := Option.some.inj h
          have hP9 := hP.sub (ws' := ((a0, .inr (9, [.int o109.2.1, .int o109.2.2.1, .int o109.2.2.2, .ref a4, g10, g11, g12, g13, g14, g15, g16, g17, g18, g19, g20, .ref a5, g21, g22, g23, g24, g25, g26, g27, g28, g29, g30, g31, g32, g33, g34])) :: bX11 a4 uq kq q_q ([(a5, .inl (cB36, 26, .inl m_v))]))) [16, 1, 2, 3, 4, 5, 6, 7, 8, 9, 10, 11, 12, 13, 14, 15, 0] rfl
          have hD9 := hD.sub (ws' := ((a0, .inr (9, [.int o109.2.1, .int o109.2.2.1, .int o109.2.2.2, .ref a4, g10, g11, g12, g13, g14, g15, g16, g17, g18, g19, g20, .ref a5, g21, g22, g23, g24, g25, g26, g27, g28, g29, g30, g31, g32, g33, g34])) :: bX11 a4 uq kq q_q ([(a5, .inl (cB36, 26, .inl m_v))]))) [16, 1, 2, 3, 4, 5, 6, 7, 8, 9, 10, 11, 12, 13, 14, 15, 0] (by decide) rfl
          have hK9 := hK.sub (tys' := []) [] rfl
          rw [hQQ]
          exact W.iret (v := o109.1) hx hb hr (fun t ht hW => ⟨⟨o109.1, (), rfl, rfl, by rw [ht]; exact hP9, va_K.moved hW.alike hK9, hD9⟩, hS.F ht⟩) hS.2.2 dX12_likeliest_112
        · have h := (if_neg c66).symm.trans h
          refine lv_aload_n hx hb dX12_likeliest_69 rfl (lv_at hl 4 rfl) ?_
          refine lv_iload hx hb dX12_likeliest_70 (lv_at hl 0 rfl) ?_
          refine lv_iload hx hb dX12_likeliest_72 (lv_at hl 3 rfl) ?_
          obtain ⟨o74, eo74, h⟩ := bd_of h
          refine cl_l (wc := ((a0, .inr (9, [.int 0, .int m_t.2.1, .int m_t.2.2, .ref a4, g10, g11, g12, g13, g14, g15, g16, g17, g18, g19, g20, .ref a5, g21, g22, g23, g24, g25, g26, g27, g28, g29, g30, g31, g32, g33, g34])) :: bX11 a4 uq kq q_q ([(a5, .inl (cB36, 26, .inl m_v))]))) (wr := []) (va_runV (As := [.int v57_l9, .int o42]) (rest := []) ⟨hx, hb, hml, hown, hts⟩ (kfX12_oddsOf l dC dI a0 v57_l9 o42 a4 a5 uq kq m_v (.int 0) (.int m_t.2.1) (.int m_t.2.2) (g10) (g11) (g12) (g13) (g14) (g15) (g16) (g17) (g18) (g19) (g20) (g21) (g22) (g23) (g24) (g25) (g26) (g27) (g28) (g29) (g30) (g31) (g32) (g33) (g34) q_q cB36 H.size o74 eo74) (cwV 2 hts gfX12_likeliest_3 rfl rfl rfl (by decide +kernel) ⟨(Nat.le_of_ble_eq_true rfl), (Nat.le_of_ble_eq_true rfl)⟩) (PV (hP.sub (ws' := ((a0, .inr (9, [.int 0, .int m_t.2.1, .int m_t.2.2, .ref a4, g10, g11, g12, g13, g14, g15, g16, g17, g18, g19, g20, .ref a5, g21, g22, g23, g24, g25, g26, g27, g28, g29, g30, g31, g32, g33, g34])) :: bX11 a4 uq kq q_q ([(a5, .inl (cB36, 26, .inl m_v))]))) [1, 2, 3, 4, 5, 6, 7, 8, 9, 10, 11, 12, 13, 14, 15, 16, 0] rfl) (hK.sub (tys' := (tX11 kq ((cB36, .int) :: []))) [0, 1, 2, 3, 4, 5, 6, 7, 8, 9, 10, 11, 12, 13, 14] rfl) (hD.sub (ws' := ((a0, .inr (9, [.int 0, .int m_t.2.1, .int m_t.2.2, .ref a4, g10, g11, g12, g13, g14, g15, g16, g17, g18, g19, g20, .ref a5, g21, g22, g23, g24, g25, g26, g27, g28, g29, g30, g31, g32, g33, g34])) :: bX11 a4 uq kq q_q ([(a5, .inl (cB36, 26, .inl m_v))]))) [1, 2, 3, 4, 5, 6, 7, 8, 9, 10, 11, 12, 13, 14, 15, 16, 0] (by decide) rfl) hN 0 rfl rfl) rfl rfl hl.1 rfl (lv_room (Nat.le_of_ble_eq_true rfl)) dX12_likeliest_74 ⟨(Nat.le_of_ble_eq_true rfl), (Nat.le_of_ble_eq_true rfl)⟩) hP hD hK hS hA [1, 2, 3, 4, 5, 6, 7, 8, 9, 10, 11, 12, 13, 14, 15, 16, 0] [] rfl rfl (by decide) (by decide) (fun r74 _ H locs hw hP hD _ hS => ?_)
          obtain rfl := hw.symm
          have hP : va_P (dC, dI) vwCl ((a0, .inr (9, [.int 0, .int m_t.2.1, .int m_t.2.2, .ref a4, g10, g11, g12, g13, g14, g15, g16, g17, g18, g19, g20, .ref a5, g21, g22, g23, g24, g25, g26, g27, g28, g29, g30, g31, g32, g33, g34])) :: bX11 a4 uq kq q_q ([(a5, .inl (cB36, 26, .inl m_v))])) H := hP
          have hD : va_D A ((a0, .inr (9, [.int 0, .int m_t.2.1, .int m_t.2.2, .ref a4, g10, g11, g12, g13, g14, g15, g16, g17, g18, g19, g20, .ref a5, g21, g22, g23, g24, g25, g26, g27, g28, g29, g30, g31, g32, g33, g34])) :: bX11 a4 uq kq q_q ([(a5, .inl (cB36, 26, .inl m_v))])) := hD
          refine lv_lload hx hb dX12_likeliest_77 (lv_at hl 1 rfl) ?_
          refine W.lcmp hx hb dX12_likeliest_79 ?_
          have J100 : ∀ (v100_l6 : Int32) (v100_l7 : Int64) (H : Heap) (locs : List Loc) (ls : Array Slot), f_X12_likeliest_J100 (f_X12_likeliest_L57 m_t m_v q_q o42 n57) v57_l9 v100_l6 v100_l7 = some out → va_P (dC, dI) vwCl ((a0, .inr (9, [.int 0, .int m_t.2.1, .int m_t.2.2, .ref a4, g10, g11, g12, g13, g14, g15, g16, g17, g18, g19, g20, .ref a5, g21, g22, g23, g24, g25, g26, g27, g28, g29, g30, g31, g32, g33, g34])) :: bX11 a4 uq kq q_q ([(a5, .inl (cB36, 26, .inl m_v))])) H → va_D A ((a0, .inr (9, [.int 0, .int m_t.2.1, .int m_t.2.2, .ref a4, g10, g11, g12, g13, g14, g15, g16, g17, g18, g19, g20, .ref a5, g21, g22, g23, g24, g25, g26, g27, g28, g29, g30, g31, g32, g33, g34])) :: bX11 a4 uq kq q_q ([(a5, .inl (cB36, 26, .inl m_v))])) → va_S A s.heap H locs → lv_has ls 10 [(6, .int v100_l6), (7, .long v100_l7), (9, .int v57_l9), (5, .int o42), (0, .ref a0)] → W p l e (headSpec vfX12_likeliest { frames := 5, cells := 0, slots := 0, locals := 118 }).room s m ([.ref a0, .int k1, .int k2, .int k3]).toArray below meth c H locs 0 0 QQ (F0 m 100 ls []) := by
            intro v100_l6 v100_l7 H locs ls h  hP hD hS hl
            rw [f_X12_likeliest_J100] at h
            refine lv_iinc (v := (v57_l9 + (1 : Int32))) (lv' := [(9, .int (v57_l9 + (1 : Int32))), (6, .int v100_l6), (7, .long v100_l7), (5, .int o42), (0, .ref a0)]) hx hb dX12_likeliest_100 hl (k := 2) rfl rfl (by decide) rfl (fun ls hl => ?_)
            refine lv_goto (tgt := 57) hx hb dX12_likeliest_103 (by decide) ?_
            exact ih57 (v57_l9 + (1 : Int32)) v100_l7 v100_l6 H _ ls h  (hP.sub (ws' := ((a5, .inl (cB36, 26, .inl m_v)) :: (a0, .inr (9, [.int 0, .int m_t.2.1, .int m_t.2.2, .ref a4, g10, g11, g12, g13, g14, g15, g16, g17, g18, g19, g20, .ref a5, g21, g22, g23, g24, g25, g26, g27, g28, g29, g30, g31, g32, g33, g34])) :: bX11 a4 uq kq q_q [])) [16, 0, 1, 2, 3, 4, 5, 6, 7, 8, 9, 10, 11, 12, 13, 14, 15] rfl) (hD.sub (ws' := ((a5, .inl (cB36, 26, .inl m_v)) :: (a0, .inr (9, [.int 0, .int m_t.2.1, .int m_t.2.2, .ref a4, g10, g11, g12, g13, g14, g15, g16, g17, g18, g19, g20, .ref a5, g21, g22, g23, g24, g25, g26, g27, g28, g29, g30, g31, g32, g33, g34])) :: bX11 a4 uq kq q_q [])) [16, 0, 1, 2, 3, 4, 5, 6, 7, 8, 9, 10, 11, 12, 13, 14, 15] (by decide) rfl) hS (lv_sub hl [0, 2, 1, 3, 4] rfl)
          refine lv_if_gt (tgt := 86) hx hb dX12_likeliest_80 (by decide) (fun c80 => ?_) (fun c80 => ?_)
          · have h := (if_pos c80).symm.trans h
            refine lv_aload_n hx hb dX12_likeliest_86 rfl (lv_at hl 4 rfl) ?_
            refine lv_iload hx hb dX12_likeliest_87 (lv_at hl 0 rfl) ?_
            refine lv_iload hx hb dX12_likeliest_89 (lv_at hl 3 rfl) ?_
            obtain ⟨o91, eo91, h⟩ := bd_of h
            refine cl_l (wc := ((a0, .inr (9, [.int 0, .int m_t.2.1, .int m_t.2.2, .ref a4, g10, g11, g12, g13, g14, g15, g16, g17, g18, g19, g20, .ref a5, g21, g22, g23, g24, g25, g26, g27, g28, g29, g30, g31, g32, g33, g34])) :: bX11 a4 uq kq q_q ([(a5, .inl (cB36, 26, .inl m_v))]))) (wr := []) (va_runV (As := [.int v57_l9, .int o42]) (rest := []) ⟨hx, hb, hml, hown, hts⟩ (kfX12_oddsOf l dC dI a0 v57_l9 o42 a4 a5 uq kq m_v (.int 0) (.int m_t.2.1) (.int m_t.2.2) (g10) (g11) (g12) (g13) (g14) (g15) (g16) (g17) (g18) (g19) (g20) (g21) (g22) (g23) (g24) (g25) (g26) (g27) (g28) (g29) (g30) (g31) (g32) (g33) (g34) q_q cB36 H.size o91 eo91) (cwV 2 hts gfX12_likeliest_3 rfl rfl rfl (by decide +kernel) ⟨(Nat.le_of_ble_eq_true rfl), (Nat.le_of_ble_eq_true rfl)⟩) (PV (hP.sub (ws' := ((a0, .inr (9, [.int 0, .int m_t.2.1, .int m_t.2.2, .ref a4, g10, g11, g12, g13, g14, g15, g16, g17, g18, g19, g20, .ref a5, g21, g22, g23, g24, g25, g26, g27, g28, g29, g30, g31, g32, g33, g34])) :: bX11 a4 uq kq q_q ([(a5, .inl (cB36, 26, .inl m_v))]))) [0, 1, 2, 3, 4, 5, 6, 7, 8, 9, 10, 11, 12, 13, 14, 15, 16] rfl) (hK.sub (tys' := (tX11 kq ((cB36, .int) :: []))) [0, 1, 2, 3, 4, 5, 6, 7, 8, 9, 10, 11, 12, 13, 14] rfl) (hD.sub (ws' := ((a0, .inr (9, [.int 0, .int m_t.2.1, .int m_t.2.2, .ref a4, g10, g11, g12, g13, g14, g15, g16, g17, g18, g19, g20, .ref a5, g21, g22, g23, g24, g25, g26, g27, g28, g29, g30, g31, g32, g33, g34])) :: bX11 a4 uq kq q_q ([(a5, .inl (cB36, 26, .inl m_v))]))) [0, 1, 2, 3, 4, 5, 6, 7, 8, 9, 10, 11, 12, 13, 14, 15, 16] (by decide) rfl) hN 0 rfl rfl) rfl rfl hl.1 rfl (lv_room (Nat.le_of_ble_eq_true rfl)) dX12_likeliest_91 ⟨(Nat.le_of_ble_eq_true rfl), (Nat.le_of_ble_eq_true rfl)⟩) hP hD hK hS hA [0, 1, 2, 3, 4, 5, 6, 7, 8, 9, 10, 11, 12, 13, 14, 15, 16] [] rfl rfl (by decide) (by decide) (fun r91 _ H locs hw hP hD _ hS => ?_)
            obtain rfl := hw.symm
            have hP : va_P (dC, dI) vwCl ((a0, .inr (9, [.int 0, .int m_t.2.1, .int m_t.2.2, .ref a4, g10, g11, g12, g13, g14, g15, g16, g17, g18, g19, g20, .ref a5, g21, g22, g23, g24, g25, g26, g27, g28, g29, g30, g31, g32, g33, g34])) :: bX11 a4 uq kq q_q ([(a5, .inl (cB36, 26, .inl m_v))])) H := hP
            have hD : va_D A ((a0, .inr (9, [.int 0, .int m_t.2.1, .int m_t.2.2, .ref a4, g10, g11, g12, g13, g14, g15, g16, g17, g18, g19, g20, .ref a5, g21, g22, g23, g24, g25, g26, g27, g28, g29, g30, g31, g32, g33, g34])) :: bX11 a4 uq kq q_q ([(a5, .inl (cB36, 26, .inl m_v))])) := hD
            refine lv_lstore (lv' := [(7, .long o91), (9, .int v57_l9), (6, .int v57_l6), (5, .int o42), (0, .ref a0)]) hx hb dX12_likeliest_94 hl (by decide) rfl (fun ls hl => ?_)
            refine lv_iload hx hb dX12_likeliest_96 (lv_at hl 1 rfl) ?_
            refine lv_istore (lv' := [(6, .int v57_l9), (7, .long o91), (9, .int v57_l9), (5, .int o42), (0, .ref a0)]) hx hb dX12_likeliest_98 hl (by decide) rfl (fun ls hl => ?_)
            exact J100 v57_l9 o91 H _ ls h  hP hD hS (lv_sub hl [0, 1, 2, 3, 4] rfl)
          · have h := (if_neg c80).symm.trans h
            refine lv_goto (tgt := 100) hx hb dX12_likeliest_83 (by decide) ?_
            exact J100 v57_l6 v57_l7 H _ ls h  hP hD hS (lv_sub hl [2, 1, 0, 3, 4] rfl)
    exact L57 FU (0 : Int32) (0 : Int64) (-2 : Int32) H _ ls h  hP hD hS (lv_sub hl [0, 1, 2, 3, 5] rfl)
  · have h := (if_neg c28).symm.trans h
    refine lv_aload_n hx hb dX12_likeliest_31 rfl (lv_at hl 1 rfl) ?_
    refine lv_iload hx hb dX12_likeliest_32 (lv_at hl 0 rfl) ?_
    obtain ⟨o34, eo34⟩ : ∃ o, o = f_X12_refused o21 ((0 : Int32), m_t.2) := ⟨_, rfl⟩
    have h := nm_of h o34 eo34
    refine cl_i (wc := ([(a0, .inr (9, [.int 0, .int m_t.2.1, .int m_t.2.2, .ref a4, g10, g11, g12, g13, g14, g15, g16, g17, g18, g19, g20, .ref a5, g21, g22, g23, g24, g25, g26, g27, g28, g29, g30, g31, g32, g33, g34]))])) (wr := ((a5, .inl (cB36, 26, .inl m_v)) :: bX11 a4 uq kq q_q [])) (va_runV (As := [.int o21]) (rest := []) ⟨hx, hb, hml, hown, hts⟩ (kfX12_refused l dC dI a0 o21 ((0 : Int32), m_t.2) (.ref a4) (g10) (g11) (g12) (g13) (g14) (g15) (g16) (g17) (g18) (g19) (g20) (.ref a5) (g21) (g22) (g23) (g24) (g25) (g26) (g27) (g28) (g29) (g30) (g31) (g32) (g33) (g34) H.size o34 eo34.symm) (cwV 1 hts gfX12_likeliest_4 rfl rfl rfl (by decide +kernel) ⟨(Nat.le_of_ble_eq_true rfl), (Nat.le_of_ble_eq_true rfl)⟩) (PV (hP.sub (ws' := ([(a0, .inr (9, [.int 0, .int m_t.2.1, .int m_t.2.2, .ref a4, g10, g11, g12, g13, g14, g15, g16, g17, g18, g19, g20, .ref a5, g21, g22, g23, g24, g25, g26, g27, g28, g29, g30, g31, g32, g33, g34]))])) [1] rfl) (hK.sub (tys' := ([])) [] rfl) (hD.sub (ws' := ([(a0, .inr (9, [.int 0, .int m_t.2.1, .int m_t.2.2, .ref a4, g10, g11, g12, g13, g14, g15, g16, g17, g18, g19, g20, .ref a5, g21, g22, g23, g24, g25, g26, g27, g28, g29, g30, g31, g32, g33, g34]))])) [1] (by decide) rfl) hN 0 rfl rfl) rfl rfl hl.1 rfl (lv_room (Nat.le_of_ble_eq_true rfl)) dX12_likeliest_34 ⟨(Nat.le_of_ble_eq_true rfl), (Nat.le_of_ble_eq_true rfl)⟩) hP hD hK hS hA [1] [0, 2, 3, 4, 5, 6, 7, 8, 9, 10, 11, 12, 13, 14, 15, 16] rfl rfl (by decide) (by decide) (fun r34 _ H locs hw hP hD _ hS => ?_)
    obtain rfl := hw
    have hP : va_P (dC, dI) vwCl ((a5, .inl (cB36, 26, .inl m_v)) :: bX11 a4 uq kq q_q ([(a0, .inr (9, [.int o34.1, .int o34.2.1, .int o34.2.2, .ref a4, g10, g11, g12, g13, g14, g15, g16, g17, g18, g19, g20, .ref a5, g21, g22, g23, g24, g25, g26, g27, g28, g29, g30, g31, g32, g33, g34]))])) H := hP
    have hD : va_D A ((a5, .inl (cB36, 26, .inl m_v)) :: bX11 a4 uq kq q_q ([(a0, .inr (9, [.int o34.1, .int o34.2.1, .int o34.2.2, .ref a4, g10, g11, g12, g13, g14, g15, g16, g17, g18, g19, g20, .ref a5, g21, g22, g23, g24, g25, g26, g27, g28, g29, g30, g31, g32, g33, g34]))])) := hD
    obtain rfl := Option.some.inj h
    have hP9 := hP.sub (ws' := ((a0, .inr (9, [.int o34.1, .int o34.2.1, .int o34.2.2, .ref a4, g10, g11, g12, g13, g14, g15, g16, g17, g18, g19, g20, .ref a5, g21, g22, g23, g24, g25, g26, g27, g28, g29, g30, g31, g32, g33, g34])) :: bX11 a4 uq kq q_q ([(a5, .inl (cB36, 26, .inl m_v))]))) [16, 1, 2, 3, 4, 5, 6, 7, 8, 9, 10, 11, 12, 13, 14, 15, 0] rfl
    have hD9 := hD.sub (ws' := ((a0, .inr (9, [.int o34.1, .int o34.2.1, .int o34.2.2, .ref a4, g10, g11, g12, g13, g14, g15, g16, g17, g18, g19, g20, .ref a5, g21, g22, g23, g24, g25, g26, g27, g28, g29, g30, g31, g32, g33, g34])) :: bX11 a4 uq kq q_q ([(a5, .inl (cB36, 26, .inl m_v))]))) [16, 1, 2, 3, 4, 5, 6, 7, 8, 9, 10, 11, 12, 13, 14, 15, 0] (by decide) rfl
    have hK9 := hK.sub (tys' := []) [] rfl
    rw [hQQ]
    exact W.iret (v := (-1 : Int32)) hx hb hr (fun t ht hW => ⟨⟨(-1 : Int32), (), rfl, rfl, by rw [ht]; exact hP9, va_K.moved hW.alike hK9, hD9⟩, hS.F ht⟩) hS.2.2 dX12_likeliest_37
