def vX12_feed_lo : List Cond := .code yX12_feed cX12_feed 8 (some .int) :: ([.fieldLink RX12 36 "HookPierModel" "thrown" "I", .fieldLink RX12 292 "HookPierModel" "taped" "I", .fieldLink RX12 13 "HookPierModel" "tape" "[B"] ++ wsX120)
theorem iX12_feed_lo_X12 : ∀ w ∈ wsX120, w ∈ vX12_feed_lo := fun _ h => List.mem_cons_of_mem _ (List.mem_append_right _ h)
set_option maxHeartbeats 2000000 in
set_option maxRecDepth 100000 in
theorem kX12_feed_lo (l : Launch) (dC : Nat → ClassId) (dI : Nat → Nat → Nat) (a0 : Nat) (k1 : Int32) (k2 : Int32) (k3 : Int32) (k4 : Int32) (k5 : Int32) (a6 : Nat) (k7 : Int32) (g8 : Value) (g9 : Value) (g10 : Value) (g11 : Value) (k12 : Int32) (g13 : Value) (g14 : Value) (g15 : Value) (g16 : Value) (g17 : Value) (g18 : Value) (g19 : Value) (g20 : Value) (g21 : Value) (g22 : Value) (g23 : Value) (g24 : Value) (g25 : Value) (g26 : Value) (g27 : Value) (g28 : Value) (g29 : Value) (g30 : Value) (g31 : Value) (g32 : Value) (g33 : Value) (g34 : Value) (g35 : Value) (cB36 : ClassId) (f37 : Nat → Int32) (hk12 : (0 ≤ k12.toInt ∧ k12.toInt ≤ 880)) (sz : Nat) : Met l yX12_feed vX12_feed_lo ({ frames := 0, cells := 0, slots := 0, locals := 0 }) (PC (dC, dI) [.ref a0, .int k1, .int k2, .int k3, .int k4, .int k5] sz [(a0, .inr (9, [.int k7, g8, g9, g10, g11, .ref a6, .int k12, g13, g14, g15, g16, g17, g18, g19, g20, g21, g22, g23, g24, g25, g26, g27, g28, g29, g30, g31, g32, g33, g34, g35])), (a6, .inl (cB36, 900, .inl f37))] [(cB36, .byte)]) (va_Qi (S := Int32 × (Nat → Int32)) (fun (r : Int32) u => (20 ≤ r.toInt ∧ r.toInt ≤ 900) ∧ (r.toInt = k12.toInt + 20) ∧ (20 ≤ (u.1).toInt ∧ (u.1).toInt ≤ 900) ∧ ((u.1).toInt = k12.toInt + 20)) (fun u t => BC (dC, dI) (va_A [(a0, .inr (9, [.int k7, g8, g9, g10, g11, .ref a6, .int k12, g13, g14, g15, g16, g17, g18, g19, g20, g21, g22, g23, g24, g25, g26, g27, g28, g29, g30, g31, g32, g33, g34, g35])), (a6, .inl (cB36, 900, .inl f37))] sz) [(a0, .inr (9, [.int 0, g8, g9, g10, g11, .ref a6, .int (u.1), g13, g14, g15, g16, g17, g18, g19, g20, g21, g22, g23, g24, g25, g26, g27, g28, g29, g30, g31, g32, g33, g34, g35])), (a6, .inl (cB36, 900, .inl (u.2)))] [] t) (va_A [(a0, .inr (9, [.int k7, g8, g9, g10, g11, .ref a6, .int k12, g13, g14, g15, g16, g17, g18, g19, g20, g21, g22, g23, g24, g25, g26, g27, g28, g29, g30, g31, g32, g33, g34, g35])), (a6, .inl (cB36, 900, .inl f37))] sz)) 0 0 (va_A [(a0, .inr (9, [.int k7, g8, g9, g10, g11, .ref a6, .int k12, g13, g14, g15, g16, g17, g18, g19, g20, g21, g22, g23, g24, g25, g26, g27, g28, g29, g30, g31, g32, g33, g34, g35])), (a6, .inl (cB36, 900, .inl f37))] sz) := by
  refine Met.ofW (cc := cX12_feed) (maxL := 8) (ret := (some .int)) (by decide) rfl ?_
  intro p e s m args below meth c s₁ B hml hv
  obtain ⟨rfl, hsz, hP, hK, hD0, hN⟩ := hv
  have hx := B.exec
  have hb := B.bytes
  have hr := B.returns
  have hts := atoms_spec (ws := vX12_feed_lo) B.pre
  have hown : s.vm.findClass RX12 = some m.cls := findClass_of_methodNamed B.named
  have hlocks := B.notSynchronized
  subst hsz
  have hD := hD0.self (sz := s.heap.size)
  generalize hAe : va_A [(a0, .inr (9, [.int k7, g8, g9, g10, g11, .ref a6, .int k12, g13, g14, g15, g16, g17, g18, g19, g20, g21, g22, g23, g24, g25, g26, g27, g28, g29, g30, g31, g32, g33, g34, g35])), (a6, .inl (cB36, 900, .inl f37))] s.heap.size = A at hD ⊢
  have hA : ∀ q : Nat, s.heap.size ≤ q → A q := fun q h => by rw [← hAe]; exact Or.inr h
  have hS : va_S A s.heap s.heap [] := va_S.rf
  have hP : va_P (dC, dI) vwCl [(a0, .inr (9, [.int k7, g8, g9, g10, g11, .ref a6, .int k12, g13, g14, g15, g16, g17, g18, g19, g20, g21, g22, g23, g24, g25, g26, g27, g28, g29, g30, g31, g32, g33, g34, g35])), (a6, .inl (cB36, 900, .inl f37))] s.heap := hP
  have hl := lv_entry ([.ref a0, .int k1, .int k2, .int k3, .int k4, .int k5]) (n := 8) (Nat.le_of_ble_eq_true rfl)
  rw [lg_entry_eq]
  generalize (lg_sl ([.ref a0, .int k1, .int k2, .int k3, .int k4, .int k5]) ++ List.replicate (8 - (lg_sl ([.ref a0, .int k1, .int k2, .int k3, .int k4, .int k5])).length) Slot.unset).toArray = ls at hl ⊢
  have hl : lv_has ls 8 [(0, .ref a0), (1, .int k1), (2, .int k2), (3, .int k3), (4, .int k4), (5, .int k5)] := hl
  refine lv_aload_n hx hb dX12_feed_0 rfl (lv_at hl 0 rfl) ?_
  refine lv_iconst (v := 0) hx hb dX12_feed_1 (by decide) ?_
  refine va_put (D := (dC, dI)) (ci := 9) (v := .int 0) (ty := .int) (C := RX12) (T := TX12) (N := 30) hx hb hts iX12_feed_lo_X12 tyX12 tyX12_ok nmX12 hown hK hP hD hS 0 rfl rfl 0 (by decide) (hts (.fieldLink RX12 36 "HookPierModel" "thrown" "I") (List.mem_of_getElem? (i := 1) rfl)) (fun _ h9 => h9) rfl (by decide +kernel) rfl rfl (Nat.le_of_ble_eq_true rfl) dX12_feed_2 (fun H locs hP hD hS => ?_)
  have hP : va_P (dC, dI) vwCl [(a0, .inr (9, [.int 0, g8, g9, g10, g11, .ref a6, .int k12, g13, g14, g15, g16, g17, g18, g19, g20, g21, g22, g23, g24, g25, g26, g27, g28, g29, g30, g31, g32, g33, g34, g35])), (a6, .inl (cB36, 900, .inl f37))] H := hP
  have hD : va_D A [(a0, .inr (9, [.int 0, g8, g9, g10, g11, .ref a6, .int k12, g13, g14, g15, g16, g17, g18, g19, g20, g21, g22, g23, g24, g25, g26, g27, g28, g29, g30, g31, g32, g33, g34, g35])), (a6, .inl (cB36, 900, .inl f37))] := hD
  refine lv_aload_n hx hb dX12_feed_5 rfl (lv_at hl 0 rfl) ?_
  refine va_get (D := (dC, dI)) (ci := 9) (v := .int k12) (C := RX12) (T := TX12) (N := 30) hx hb hts iX12_feed_lo_X12 hown hK hP 0 rfl rfl 6 (by decide) (hts (.fieldLink RX12 292 "HookPierModel" "taped" "I") (List.mem_of_getElem? (i := 2) rfl)) (fun _ h9 => h9) rfl dX12_feed_6 ?_
  refine lv_bipush (v := 20) hx hb dX12_feed_9 (by decide) ?_
  refine lv_iadd hx hb dX12_feed_11 ?_
  refine lv_topi (fun z1 ez1 => ?_)
  have tz1 : z1.toInt = k12.toInt + 20 := by rw [ez1]; rw [iadd_t (by first | omega | (simp only [ltv_0, ltv_20]; omega)) (by first | omega | (simp only [ltv_0, ltv_20]; omega))]; first | done | (simp only [ltv_0, ltv_20])
  refine lv_sipush (v := 900) hx hb dX12_feed_12 (by decide) ?_
  refine lv_icmp_le (tgt := 20) hx hb dX12_feed_15 (by decide) (fun _ => ?_) (fun c2 => False.elim (by simp only [fa_lt, fa_le, fa_eq, ltv_0, ltv_900] at c2; omega))
  refine lv_iconst (v := 0) hx hb dX12_feed_20 (by decide) ?_
  refine lv_istore (lv' := [(6, .int 0), (0, .ref a0), (1, .int k1), (2, .int k2), (3, .int k3), (4, .int k4), (5, .int k5)]) hx hb dX12_feed_21 hl (by decide) rfl (fun ls hl => ?_)
  refine lv_iload hx hb dX12_feed_23 (lv_at hl 0 rfl) ?_
  refine lv_bipush (v := 20) hx hb dX12_feed_25 (by decide) ?_
  refine lv_icmp_ge (tgt := 117) hx hb dX12_feed_27 (by decide) (fun c3 => absurd c3 (by decide)) (fun _ => ?_)
  refine lv_iload hx hb dX12_feed_30 (lv_at hl 0 rfl) ?_
  refine lv_iconst (v := 4) hx hb dX12_feed_32 (by decide) ?_
  refine lv_icmp_ge (tgt := 40) hx hb dX12_feed_33 (by decide) (fun c4 => absurd c4 (by decide)) (fun _ => ?_)
  refine lv_iload_n hx hb dX12_feed_36 rfl (lv_at hl 2 rfl) ?_
  refine lv_goto (tgt := 76) hx hb dX12_feed_37 (by decide) ?_
  refine lv_istore (lv' := [(7, .int k1), (6, .int 0), (0, .ref a0), (1, .int k1), (2, .int k2), (3, .int k3), (4, .int k4), (5, .int k5)]) hx hb dX12_feed_76 hl (by decide) rfl (fun ls hl => ?_)
  refine lv_aload_n hx hb dX12_feed_78 rfl (lv_at hl 2 rfl) ?_
  refine va_get (D := (dC, dI)) (ci := 9) (v := .ref a6) (C := RX12) (T := TX12) (N := 30) hx hb hts iX12_feed_lo_X12 hown hK hP 0 rfl rfl 5 (by decide) (hts (.fieldLink RX12 13 "HookPierModel" "tape" "[B") (List.mem_of_getElem? (i := 3) rfl)) (fun _ h9 => h9) rfl dX12_feed_79 ?_
  refine lv_aload_n hx hb dX12_feed_82 rfl (lv_at hl 2 rfl) ?_
  refine va_get (D := (dC, dI)) (ci := 9) (v := .int k12) (C := RX12) (T := TX12) (N := 30) hx hb hts iX12_feed_lo_X12 hown hK hP 0 rfl rfl 6 (by decide) (hts (.fieldLink RX12 292 "HookPierModel" "taped" "I") (List.mem_of_getElem? (i := 2) rfl)) (fun _ h9 => h9) rfl dX12_feed_83 ?_
  refine lv_iload hx hb dX12_feed_86 (lv_at hl 0 rfl) ?_
  refine lv_bipush (v := 24) hx hb dX12_feed_88 (by decide) ?_
  refine lv_bipush (v := 8) hx hb dX12_feed_90 (by decide) ?_
  refine lv_iload hx hb dX12_feed_92 (lv_at hl 1 rfl) ?_
  refine lv_iconst (v := 4) hx hb dX12_feed_94 (by decide) ?_
  refine lv_irem hx hb dX12_feed_95 (by decide) ?_
  refine lv_topi (fun z5 ez5 => ?_)
  obtain rfl : z5 = 0 := ez5.trans (by decide)
  refine lv_imul hx hb dX12_feed_96 ?_
  refine lv_topi (fun z6 ez6 => ?_)
  obtain rfl : z6 = 0 := ez6.trans (by decide)
  refine lv_isub hx hb dX12_feed_97 ?_
  refine lv_topi (fun z7 ez7 => ?_)
  obtain rfl : z7 = 24 := ez7.trans (by decide)
  refine lv_ishr hx hb dX12_feed_98 ?_
  refine lv_topi (fun z8 ez8 => ?_)
  clear ez8
  refine lv_i2b hx hb dX12_feed_99 rfl ?_
  refine lv_topi (fun z9 ez9 => ?_)
  clear ez9
  refine va_bast hx hb hK hP hD hS 1 0 rfl rfl (vp_in_iff.mpr (by omega)) dX12_feed_100 (fun H locs hP hD hS => ?_)
  have hP : va_P (dC, dI) vwCl [(a0, .inr (9, [.int 0, g8, g9, g10, g11, .ref a6, .int k12, g13, g14, g15, g16, g17, g18, g19, g20, g21, g22, g23, g24, g25, g26, g27, g28, g29, g30, g31, g32, g33, g34, g35])), (a6, .inl (cB36, 900, .inl (upd f37 (k12 : Int32).toNatClampNeg (vp_nar .byte z9))))] H := hP
  have hD : va_D A [(a0, .inr (9, [.int 0, g8, g9, g10, g11, .ref a6, .int k12, g13, g14, g15, g16, g17, g18, g19, g20, g21, g22, g23, g24, g25, g26, g27, g28, g29, g30, g31, g32, g33, g34, g35])), (a6, .inl (cB36, 900, .inl (upd f37 (k12 : Int32).toNatClampNeg (vp_nar .byte z9))))] := hD
  generalize upd f37 (k12 : Int32).toNatClampNeg (vp_nar .byte z9) = f10 at hP hD
  refine lv_aload_n hx hb dX12_feed_101 rfl (lv_at hl 2 rfl) ?_
  refine lv_dup hx hb dX12_feed_102 rfl ?_
  refine va_get (D := (dC, dI)) (ci := 9) (v := .int k12) (C := RX12) (T := TX12) (N := 30) hx hb hts iX12_feed_lo_X12 hown hK hP 0 rfl rfl 6 (by decide) (hts (.fieldLink RX12 292 "HookPierModel" "taped" "I") (List.mem_of_getElem? (i := 2) rfl)) (fun _ h9 => h9) rfl dX12_feed_103 ?_
  refine lv_iconst (v := 1) hx hb dX12_feed_106 (by decide) ?_
  refine lv_iadd hx hb dX12_feed_107 ?_
  refine lv_topi (fun z11 ez11 => ?_)
  have tz11 : z11.toInt = k12.toInt + 1 := by rw [ez11]; rw [iadd_t (by first | omega | (simp only [ltv_0, ltv_1]; omega)) (by first | omega | (simp only [ltv_0, ltv_1]; omega))]; first | done | (simp only [ltv_0, ltv_1])
  refine va_put (D := (dC, dI)) (ci := 9) (v := .int z11) (ty := .int) (C := RX12) (T := TX12) (N := 30) hx hb hts iX12_feed_lo_X12 tyX12 tyX12_ok nmX12 hown hK hP hD hS 0 rfl rfl 6 (by decide) (hts (.fieldLink RX12 292 "HookPierModel" "taped" "I") (List.mem_of_getElem? (i := 2) rfl)) (fun _ h9 => h9) rfl (by decide +kernel) rfl rfl (Nat.le_of_ble_eq_true rfl) dX12_feed_108 (fun H locs hP hD hS => ?_)
  have hP : va_P (dC, dI) vwCl [(a0, .inr (9, [.int 0, g8, g9, g10, g11, .ref a6, .int z11, g13, g14, g15, g16, g17, g18, g19, g20, g21, g22, g23, g24, g25, g26, g27, g28, g29, g30, g31, g32, g33, g34, g35])), (a6, .inl (cB36, 900, .inl f10))] H := hP
  have hD : va_D A [(a0, .inr (9, [.int 0, g8, g9, g10, g11, .ref a6, .int z11, g13, g14, g15, g16, g17, g18, g19, g20, g21, g22, g23, g24, g25, g26, g27, g28, g29, g30, g31, g32, g33, g34, g35])), (a6, .inl (cB36, 900, .inl f10))] := hD
  refine lv_iinc (v := 1) (lv' := [(6, .int 1), (7, .int k1), (0, .ref a0), (1, .int k1), (2, .int k2), (3, .int k3), (4, .int k4), (5, .int k5)]) hx hb dX12_feed_111 hl (k := 1) rfl (by decide) (by decide) rfl (fun ls hl => ?_)
  refine lv_goto (tgt := 23) hx hb dX12_feed_114 (by decide) ?_
  refine lv_iload hx hb dX12_feed_23 (lv_at hl 0 rfl) ?_
  refine lv_bipush (v := 20) hx hb dX12_feed_25 (by decide) ?_
  refine lv_icmp_ge (tgt := 117) hx hb dX12_feed_27 (by decide) (fun c12 => absurd c12 (by decide)) (fun _ => ?_)
  refine lv_iload hx hb dX12_feed_30 (lv_at hl 0 rfl) ?_
  refine lv_iconst (v := 4) hx hb dX12_feed_32 (by decide) ?_
  refine lv_icmp_ge (tgt := 40) hx hb dX12_feed_33 (by decide) (fun c13 => absurd c13 (by decide)) (fun _ => ?_)
  refine lv_iload_n hx hb dX12_feed_36 rfl (lv_at hl 3 rfl) ?_
  refine lv_goto (tgt := 76) hx hb dX12_feed_37 (by decide) ?_
  refine lv_istore (lv' := [(7, .int k1), (6, .int 1), (0, .ref a0), (1, .int k1), (2, .int k2), (3, .int k3), (4, .int k4), (5, .int k5)]) hx hb dX12_feed_76 hl (by decide) rfl (fun ls hl => ?_)
  refine lv_aload_n hx hb dX12_feed_78 rfl (lv_at hl 2 rfl) ?_
  refine va_get (D := (dC, dI)) (ci := 9) (v := .ref a6) (C := RX12) (T := TX12) (N := 30) hx hb hts iX12_feed_lo_X12 hown hK hP 0 rfl rfl 5 (by decide) (hts (.fieldLink RX12 13 "HookPierModel" "tape" "[B") (List.mem_of_getElem? (i := 3) rfl)) (fun _ h9 => h9) rfl dX12_feed_79 ?_
  refine lv_aload_n hx hb dX12_feed_82 rfl (lv_at hl 2 rfl) ?_
  refine va_get (D := (dC, dI)) (ci := 9) (v := .int z11) (C := RX12) (T := TX12) (N := 30) hx hb hts iX12_feed_lo_X12 hown hK hP 0 rfl rfl 6 (by decide) (hts (.fieldLink RX12 292 "HookPierModel" "taped" "I") (List.mem_of_getElem? (i := 2) rfl)) (fun _ h9 => h9) rfl dX12_feed_83 ?_
  refine lv_iload hx hb dX12_feed_86 (lv_at hl 0 rfl) ?_
  refine lv_bipush (v := 24) hx hb dX12_feed_88 (by decide) ?_
  refine lv_bipush (v := 8) hx hb dX12_feed_90 (by decide) ?_
  refine lv_iload hx hb dX12_feed_92 (lv_at hl 1 rfl) ?_
  refine lv_iconst (v := 4) hx hb dX12_feed_94 (by decide) ?_
  refine lv_irem hx hb dX12_feed_95 (by decide) ?_
  refine lv_topi (fun z14 ez14 => ?_)
  obtain rfl : z14 = 1 := ez14.trans (by decide)
  refine lv_imul hx hb dX12_feed_96 ?_
  refine lv_topi (fun z15 ez15 => ?_)
  obtain rfl : z15 = 8 := ez15.trans (by decide)
  refine lv_isub hx hb dX12_feed_97 ?_
  refine lv_topi (fun z16 ez16 => ?_)
  obtain rfl : z16 = 16 := ez16.trans (by decide)
  refine lv_ishr hx hb dX12_feed_98 ?_
  refine lv_topi (fun z17 ez17 => ?_)
  clear ez17
  refine lv_i2b hx hb dX12_feed_99 rfl ?_
  refine lv_topi (fun z18 ez18 => ?_)
  clear ez18
  refine va_bast hx hb hK hP hD hS 1 0 rfl rfl (vp_in_iff.mpr (by omega)) dX12_feed_100 (fun H locs hP hD hS => ?_)
  have hP : va_P (dC, dI) vwCl [(a0, .inr (9, [.int 0, g8, g9, g10, g11, .ref a6, .int z11, g13, g14, g15, g16, g17, g18, g19, g20, g21, g22, g23, g24, g25, g26, g27, g28, g29, g30, g31, g32, g33, g34, g35])), (a6, .inl (cB36, 900, .inl (upd f10 (z11 : Int32).toNatClampNeg (vp_nar .byte z18))))] H := hP
  have hD : va_D A [(a0, .inr (9, [.int 0, g8, g9, g10, g11, .ref a6, .int z11, g13, g14, g15, g16, g17, g18, g19, g20, g21, g22, g23, g24, g25, g26, g27, g28, g29, g30, g31, g32, g33, g34, g35])), (a6, .inl (cB36, 900, .inl (upd f10 (z11 : Int32).toNatClampNeg (vp_nar .byte z18))))] := hD
  generalize upd f10 (z11 : Int32).toNatClampNeg (vp_nar .byte z18) = f19 at hP hD
  refine lv_aload_n hx hb dX12_feed_101 rfl (lv_at hl 2 rfl) ?_
  refine lv_dup hx hb dX12_feed_102 rfl ?_
  refine va_get (D := (dC, dI)) (ci := 9) (v := .int z11) (C := RX12) (T := TX12) (N := 30) hx hb hts iX12_feed_lo_X12 hown hK hP 0 rfl rfl 6 (by decide) (hts (.fieldLink RX12 292 "HookPierModel" "taped" "I") (List.mem_of_getElem? (i := 2) rfl)) (fun _ h9 => h9) rfl dX12_feed_103 ?_
  refine lv_iconst (v := 1) hx hb dX12_feed_106 (by decide) ?_
  refine lv_iadd hx hb dX12_feed_107 ?_
  refine lv_topi (fun z20 ez20 => ?_)
  have tz20 : z20.toInt = z11.toInt + 1 := by rw [ez20]; rw [iadd_t (by first | omega | (simp only [ltv_0, ltv_1]; omega)) (by first | omega | (simp only [ltv_0, ltv_1]; omega))]; first | done | (simp only [ltv_0, ltv_1])
  refine va_put (D := (dC, dI)) (ci := 9) (v := .int z20) (ty := .int) (C := RX12) (T := TX12) (N := 30) hx hb hts iX12_feed_lo_X12 tyX12 tyX12_ok nmX12 hown hK hP hD hS 0 rfl rfl 6 (by decide) (hts (.fieldLink RX12 292 "HookPierModel" "taped" "I") (List.mem_of_getElem? (i := 2) rfl)) (fun _ h9 => h9) rfl (by decide +kernel) rfl rfl (Nat.le_of_ble_eq_true rfl) dX12_feed_108 (fun H locs hP hD hS => ?_)
  have hP : va_P (dC, dI) vwCl [(a0, .inr (9, [.int 0, g8, g9, g10, g11, .ref a6, .int z20, g13, g14, g15, g16, g17, g18, g19, g20, g21, g22, g23, g24, g25, g26, g27, g28, g29, g30, g31, g32, g33, g34, g35])), (a6, .inl (cB36, 900, .inl f19))] H := hP
  have hD : va_D A [(a0, .inr (9, [.int 0, g8, g9, g10, g11, .ref a6, .int z20, g13, g14, g15, g16, g17, g18, g19, g20, g21, g22, g23, g24, g25, g26, g27, g28, g29, g30, g31, g32, g33, g34, g35])), (a6, .inl (cB36, 900, .inl f19))] := hD
  refine lv_iinc (v := 2) (lv' := [(6, .int 2), (7, .int k1), (0, .ref a0), (1, .int k1), (2, .int k2), (3, .int k3), (4, .int k4), (5, .int k5)]) hx hb dX12_feed_111 hl (k := 1) rfl (by decide) (by decide) rfl (fun ls hl => ?_)
  refine lv_goto (tgt := 23) hx hb dX12_feed_114 (by decide) ?_
  refine lv_iload hx hb dX12_feed_23 (lv_at hl 0 rfl) ?_
  refine lv_bipush (v := 20) hx hb dX12_feed_25 (by decide) ?_
  refine lv_icmp_ge (tgt := 117) hx hb dX12_feed_27 (by decide) (fun c21 => absurd c21 (by decide)) (fun _ => ?_)
  refine lv_iload hx hb dX12_feed_30 (lv_at hl 0 rfl) ?_
  refine lv_iconst (v := 4) hx hb dX12_feed_32 (by decide) ?_
  refine lv_icmp_ge (tgt := 40) hx hb dX12_feed_33 (by decide) (fun c22 => absurd c22 (by decide)) (fun _ => ?_)
  refine lv_iload_n hx hb dX12_feed_36 rfl (lv_at hl 3 rfl) ?_
  refine lv_goto (tgt := 76) hx hb dX12_feed_37 (by decide) ?_
  refine lv_istore (lv' := [(7, .int k1), (6, .int 2), (0, .ref a0), (1, .int k1), (2, .int k2), (3, .int k3), (4, .int k4), (5, .int k5)]) hx hb dX12_feed_76 hl (by decide) rfl (fun ls hl => ?_)
  refine lv_aload_n hx hb dX12_feed_78 rfl (lv_at hl 2 rfl) ?_
  refine va_get (D := (dC, dI)) (ci := 9) (v := .ref a6) (C := RX12) (T := TX12) (N := 30) hx hb hts iX12_feed_lo_X12 hown hK hP 0 rfl rfl 5 (by decide) (hts (.fieldLink RX12 13 "HookPierModel" "tape" "[B") (List.mem_of_getElem? (i := 3) rfl)) (fun _ h9 => h9) rfl dX12_feed_79 ?_
  refine lv_aload_n hx hb dX12_feed_82 rfl (lv_at hl 2 rfl) ?_
  refine va_get (D := (dC, dI)) (ci := 9) (v := .int z20) (C := RX12) (T := TX12) (N := 30) hx hb hts iX12_feed_lo_X12 hown hK hP 0 rfl rfl 6 (by decide) (hts (.fieldLink RX12 292 "HookPierModel" "taped" "I") (List.mem_of_getElem? (i := 2) rfl)) (fun _ h9 => h9) rfl dX12_feed_83 ?_
  refine lv_iload hx hb dX12_feed_86 (lv_at hl 0 rfl) ?_
  refine lv_bipush (v := 24) hx hb dX12_feed_88 (by decide) ?_
  refine lv_bipush (v := 8) hx hb dX12_feed_90 (by decide) ?_
  refine lv_iload hx hb dX12_feed_92 (lv_at hl 1 rfl) ?_
  refine lv_iconst (v := 4) hx hb dX12_feed_94 (by decide) ?_
  refine lv_irem hx hb dX12_feed_95 (by decide) ?_
  refine lv_topi (fun z23 ez23 => ?_)
  obtain rfl : z23 = 2 := ez23.trans (by decide)
  refine lv_imul hx hb dX12_feed_96 ?_
  refine lv_topi (fun z24 ez24 => ?_)
  obtain rfl : z24 = 16 := ez24.trans (by decide)
  refine lv_isub hx hb dX12_feed_97 ?_
  refine lv_topi (fun z25 ez25 => ?_)
  obtain rfl : z25 = 8 := ez25.trans (by decide)
  refine lv_ishr hx hb dX12_feed_98 ?_
  refine lv_topi (fun z26 ez26 => ?_)
  clear ez26
  refine lv_i2b hx hb dX12_feed_99 rfl ?_
  refine lv_topi (fun z27 ez27 => ?_)
  clear ez27
  refine va_bast hx hb hK hP hD hS 1 0 rfl rfl (vp_in_iff.mpr (by omega)) dX12_feed_100 (fun H locs hP hD hS => ?_)
  have hP : va_P (dC, dI) vwCl [(a0, .inr (9, [.int 0, g8, g9, g10, g11, .ref a6, .int z20, g13, g14, g15, g16, g17, g18, g19, g20, g21, g22, g23, g24, g25, g26, g27, g28, g29, g30, g31, g32, g33, g34, g35])), (a6, .inl (cB36, 900, .inl (upd f19 (z20 : Int32).toNatClampNeg (vp_nar .byte z27))))] H := hP
  have hD : va_D A [(a0, .inr (9, [.int 0, g8, g9, g10, g11, .ref a6, .int z20, g13, g14, g15, g16, g17, g18, g19, g20, g21, g22, g23, g24, g25, g26, g27, g28, g29, g30, g31, g32, g33, g34, g35])), (a6, .inl (cB36, 900, .inl (upd f19 (z20 : Int32).toNatClampNeg (vp_nar .byte z27))))] := hD
  generalize upd f19 (z20 : Int32).toNatClampNeg (vp_nar .byte z27) = f28 at hP hD
  refine lv_aload_n hx hb dX12_feed_101 rfl (lv_at hl 2 rfl) ?_
  refine lv_dup hx hb dX12_feed_102 rfl ?_
  refine va_get (D := (dC, dI)) (ci := 9) (v := .int z20) (C := RX12) (T := TX12) (N := 30) hx hb hts iX12_feed_lo_X12 hown hK hP 0 rfl rfl 6 (by decide) (hts (.fieldLink RX12 292 "HookPierModel" "taped" "I") (List.mem_of_getElem? (i := 2) rfl)) (fun _ h9 => h9) rfl dX12_feed_103 ?_
  refine lv_iconst (v := 1) hx hb dX12_feed_106 (by decide) ?_
  refine lv_iadd hx hb dX12_feed_107 ?_
  refine lv_topi (fun z29 ez29 => ?_)
  have tz29 : z29.toInt = z20.toInt + 1 := by rw [ez29]; rw [iadd_t (by first | omega | (simp only [ltv_0, ltv_1]; omega)) (by first | omega | (simp only [ltv_0, ltv_1]; omega))]; first | done | (simp only [ltv_0, ltv_1])
  refine va_put (D := (dC, dI)) (ci := 9) (v := .int z29) (ty := .int) (C := RX12) (T := TX12) (N := 30) hx hb hts iX12_feed_lo_X12 tyX12 tyX12_ok nmX12 hown hK hP hD hS 0 rfl rfl 6 (by decide) (hts (.fieldLink RX12 292 "HookPierModel" "taped" "I") (List.mem_of_getElem? (i := 2) rfl)) (fun _ h9 => h9) rfl (by decide +kernel) rfl rfl (Nat.le_of_ble_eq_true rfl) dX12_feed_108 (fun H locs hP hD hS => ?_)
  have hP : va_P (dC, dI) vwCl [(a0, .inr (9, [.int 0, g8, g9, g10, g11, .ref a6, .int z29, g13, g14, g15, g16, g17, g18, g19, g20, g21, g22, g23, g24, g25, g26, g27, g28, g29, g30, g31, g32, g33, g34, g35])), (a6, .inl (cB36, 900, .inl f28))] H := hP
  have hD : va_D A [(a0, .inr (9, [.int 0, g8, g9, g10, g11, .ref a6, .int z29, g13, g14, g15, g16, g17, g18, g19, g20, g21, g22, g23, g24, g25, g26, g27, g28, g29, g30, g31, g32, g33, g34, g35])), (a6, .inl (cB36, 900, .inl f28))] := hD
  refine lv_iinc (v := 3) (lv' := [(6, .int 3), (7, .int k1), (0, .ref a0), (1, .int k1), (2, .int k2), (3, .int k3), (4, .int k4), (5, .int k5)]) hx hb dX12_feed_111 hl (k := 1) rfl (by decide) (by decide) rfl (fun ls hl => ?_)
  refine lv_goto (tgt := 23) hx hb dX12_feed_114 (by decide) ?_
  refine lv_iload hx hb dX12_feed_23 (lv_at hl 0 rfl) ?_
  refine lv_bipush (v := 20) hx hb dX12_feed_25 (by decide) ?_
  refine lv_icmp_ge (tgt := 117) hx hb dX12_feed_27 (by decide) (fun c30 => absurd c30 (by decide)) (fun _ => ?_)
  refine lv_iload hx hb dX12_feed_30 (lv_at hl 0 rfl) ?_
  refine lv_iconst (v := 4) hx hb dX12_feed_32 (by decide) ?_
  refine lv_icmp_ge (tgt := 40) hx hb dX12_feed_33 (by decide) (fun c31 => absurd c31 (by decide)) (fun _ => ?_)
  refine lv_iload_n hx hb dX12_feed_36 rfl (lv_at hl 3 rfl) ?_
  refine lv_goto (tgt := 76) hx hb dX12_feed_37 (by decide) ?_
  refine lv_istore (lv' := [(7, .int k1), (6, .int 3), (0, .ref a0), (1, .int k1), (2, .int k2), (3, .int k3), (4, .int k4), (5, .int k5)]) hx hb dX12_feed_76 hl (by decide) rfl (fun ls hl => ?_)
  refine lv_aload_n hx hb dX12_feed_78 rfl (lv_at hl 2 rfl) ?_
  refine va_get (D := (dC, dI)) (ci := 9) (v := .ref a6) (C := RX12) (T := TX12) (N := 30) hx hb hts iX12_feed_lo_X12 hown hK hP 0 rfl rfl 5 (by decide) (hts (.fieldLink RX12 13 "HookPierModel" "tape" "[B") (List.mem_of_getElem? (i := 3) rfl)) (fun _ h9 => h9) rfl dX12_feed_79 ?_
  refine lv_aload_n hx hb dX12_feed_82 rfl (lv_at hl 2 rfl) ?_
  refine va_get (D := (dC, dI)) (ci := 9) (v := .int z29) (C := RX12) (T := TX12) (N := 30) hx hb hts iX12_feed_lo_X12 hown hK hP 0 rfl rfl 6 (by decide) (hts (.fieldLink RX12 292 "HookPierModel" "taped" "I") (List.mem_of_getElem? (i := 2) rfl)) (fun _ h9 => h9) rfl dX12_feed_83 ?_
  refine lv_iload hx hb dX12_feed_86 (lv_at hl 0 rfl) ?_
  refine lv_bipush (v := 24) hx hb dX12_feed_88 (by decide) ?_
  refine lv_bipush (v := 8) hx hb dX12_feed_90 (by decide) ?_
  refine lv_iload hx hb dX12_feed_92 (lv_at hl 1 rfl) ?_
  refine lv_iconst (v := 4) hx hb dX12_feed_94 (by decide) ?_
  refine lv_irem hx hb dX12_feed_95 (by decide) ?_
  refine lv_topi (fun z32 ez32 => ?_)
  obtain rfl : z32 = 3 := ez32.trans (by decide)
  refine lv_imul hx hb dX12_feed_96 ?_
  refine lv_topi (fun z33 ez33 => ?_)
  obtain rfl : z33 = 24 := ez33.trans (by decide)
  refine lv_isub hx hb dX12_feed_97 ?_
  refine lv_topi (fun z34 ez34 => ?_)
  obtain rfl : z34 = 0 := ez34.trans (by decide)
  refine lv_ishr hx hb dX12_feed_98 ?_
  refine lv_topi (fun z35 ez35 => ?_)
  clear ez35
  refine lv_i2b hx hb dX12_feed_99 rfl ?_
  refine lv_topi (fun z36 ez36 => ?_)
  clear ez36
  refine va_bast hx hb hK hP hD hS 1 0 rfl rfl (vp_in_iff.mpr (by omega)) dX12_feed_100 (fun H locs hP hD hS => ?_)
  have hP : va_P (dC, dI) vwCl [(a0, .inr (9, [.int 0, g8, g9, g10, g11, .ref a6, .int z29, g13, g14, g15, g16, g17, g18, g19, g20, g21, g22, g23, g24, g25, g26, g27, g28, g29, g30, g31, g32, g33, g34, g35])), (a6, .inl (cB36, 900, .inl (upd f28 (z29 : Int32).toNatClampNeg (vp_nar .byte z36))))] H := hP
  have hD : va_D A [(a0, .inr (9, [.int 0, g8, g9, g10, g11, .ref a6, .int z29, g13, g14, g15, g16, g17, g18, g19, g20, g21, g22, g23, g24, g25, g26, g27, g28, g29, g30, g31, g32, g33, g34, g35])), (a6, .inl (cB36, 900, .inl (upd f28 (z29 : Int32).toNatClampNeg (vp_nar .byte z36))))] := hD
  generalize upd f28 (z29 : Int32).toNatClampNeg (vp_nar .byte z36) = f37 at hP hD
  refine lv_aload_n hx hb dX12_feed_101 rfl (lv_at hl 2 rfl) ?_
  refine lv_dup hx hb dX12_feed_102 rfl ?_
  refine va_get (D := (dC, dI)) (ci := 9) (v := .int z29) (C := RX12) (T := TX12) (N := 30) hx hb hts iX12_feed_lo_X12 hown hK hP 0 rfl rfl 6 (by decide) (hts (.fieldLink RX12 292 "HookPierModel" "taped" "I") (List.mem_of_getElem? (i := 2) rfl)) (fun _ h9 => h9) rfl dX12_feed_103 ?_
  refine lv_iconst (v := 1) hx hb dX12_feed_106 (by decide) ?_
  refine lv_iadd hx hb dX12_feed_107 ?_
  refine lv_topi (fun z38 ez38 => ?_)
  have tz38 : z38.toInt = z29.toInt + 1 := by rw [ez38]; rw [iadd_t (by first | omega | (simp only [ltv_0, ltv_1]; omega)) (by first | omega | (simp only [ltv_0, ltv_1]; omega))]; first | done | (simp only [ltv_0, ltv_1])
  refine va_put (D := (dC, dI)) (ci := 9) (v := .int z38) (ty := .int) (C := RX12) (T := TX12) (N := 30) hx hb hts iX12_feed_lo_X12 tyX12 tyX12_ok nmX12 hown hK hP hD hS 0 rfl rfl 6 (by decide) (hts (.fieldLink RX12 292 "HookPierModel" "taped" "I") (List.mem_of_getElem? (i := 2) rfl)) (fun _ h9 => h9) rfl (by decide +kernel) rfl rfl (Nat.le_of_ble_eq_true rfl) dX12_feed_108 (fun H locs hP hD hS => ?_)
  have hP : va_P (dC, dI) vwCl [(a0, .inr (9, [.int 0, g8, g9, g10, g11, .ref a6, .int z38, g13, g14, g15, g16, g17, g18, g19, g20, g21, g22, g23, g24, g25, g26, g27, g28, g29, g30, g31, g32, g33, g34, g35])), (a6, .inl (cB36, 900, .inl f37))] H := hP
  have hD : va_D A [(a0, .inr (9, [.int 0, g8, g9, g10, g11, .ref a6, .int z38, g13, g14, g15, g16, g17, g18, g19, g20, g21, g22, g23, g24, g25, g26, g27, g28, g29, g30, g31, g32, g33, g34, g35])), (a6, .inl (cB36, 900, .inl f37))] := hD
  refine lv_iinc (v := 4) (lv' := [(6, .int 4), (7, .int k1), (0, .ref a0), (1, .int k1), (2, .int k2), (3, .int k3), (4, .int k4), (5, .int k5)]) hx hb dX12_feed_111 hl (k := 1) rfl (by decide) (by decide) rfl (fun ls hl => ?_)
  refine lv_goto (tgt := 23) hx hb dX12_feed_114 (by decide) ?_
  refine lv_iload hx hb dX12_feed_23 (lv_at hl 0 rfl) ?_
  refine lv_bipush (v := 20) hx hb dX12_feed_25 (by decide) ?_
  refine lv_icmp_ge (tgt := 117) hx hb dX12_feed_27 (by decide) (fun c39 => absurd c39 (by decide)) (fun _ => ?_)
  refine lv_iload hx hb dX12_feed_30 (lv_at hl 0 rfl) ?_
  refine lv_iconst (v := 4) hx hb dX12_feed_32 (by decide) ?_
  refine lv_icmp_ge (tgt := 40) hx hb dX12_feed_33 (by decide) (fun _ => ?_) (fun c40 => absurd c40 (by decide))
  refine lv_iload hx hb dX12_feed_40 (lv_at hl 0 rfl) ?_
  refine lv_bipush (v := 8) hx hb dX12_feed_42 (by decide) ?_
  refine lv_icmp_ge (tgt := 51) hx hb dX12_feed_44 (by decide) (fun c41 => absurd c41 (by decide)) (fun _ => ?_)
  refine lv_iload_n hx hb dX12_feed_47 rfl (lv_at hl 4 rfl) ?_
  refine lv_goto (tgt := 76) hx hb dX12_feed_48 (by decide) ?_
  refine lv_istore (lv' := [(7, .int k2), (6, .int 4), (0, .ref a0), (1, .int k1), (2, .int k2), (3, .int k3), (4, .int k4), (5, .int k5)]) hx hb dX12_feed_76 hl (by decide) rfl (fun ls hl => ?_)
  refine lv_aload_n hx hb dX12_feed_78 rfl (lv_at hl 2 rfl) ?_
  refine va_get (D := (dC, dI)) (ci := 9) (v := .ref a6) (C := RX12) (T := TX12) (N := 30) hx hb hts iX12_feed_lo_X12 hown hK hP 0 rfl rfl 5 (by decide) (hts (.fieldLink RX12 13 "HookPierModel" "tape" "[B") (List.mem_of_getElem? (i := 3) rfl)) (fun _ h9 => h9) rfl dX12_feed_79 ?_
  refine lv_aload_n hx hb dX12_feed_82 rfl (lv_at hl 2 rfl) ?_
  refine va_get (D := (dC, dI)) (ci := 9) (v := .int z38) (C := RX12) (T := TX12) (N := 30) hx hb hts iX12_feed_lo_X12 hown hK hP 0 rfl rfl 6 (by decide) (hts (.fieldLink RX12 292 "HookPierModel" "taped" "I") (List.mem_of_getElem? (i := 2) rfl)) (fun _ h9 => h9) rfl dX12_feed_83 ?_
  refine lv_iload hx hb dX12_feed_86 (lv_at hl 0 rfl) ?_
  refine lv_bipush (v := 24) hx hb dX12_feed_88 (by decide) ?_
  refine lv_bipush (v := 8) hx hb dX12_feed_90 (by decide) ?_
  refine lv_iload hx hb dX12_feed_92 (lv_at hl 1 rfl) ?_
  refine lv_iconst (v := 4) hx hb dX12_feed_94 (by decide) ?_
  refine lv_irem hx hb dX12_feed_95 (by decide) ?_
  refine lv_topi (fun z42 ez42 => ?_)
  obtain rfl : z42 = 0 := ez42.trans (by decide)
  refine lv_imul hx hb dX12_feed_96 ?_
  refine lv_topi (fun z43 ez43 => ?_)
  obtain rfl : z43 = 0 := ez43.trans (by decide)
  refine lv_isub hx hb dX12_feed_97 ?_
  refine lv_topi (fun z44 ez44 => ?_)
  obtain rfl : z44 = 24 := ez44.trans (by decide)
  refine lv_ishr hx hb dX12_feed_98 ?_
  refine lv_topi (fun z45 ez45 => ?_)
  clear ez45
  refine lv_i2b hx hb dX12_feed_99 rfl ?_
  refine lv_topi (fun z46 ez46 => ?_)
  clear ez46
  refine va_bast hx hb hK hP hD hS 1 0 rfl rfl (vp_in_iff.mpr (by omega)) dX12_feed_100 (fun H locs hP hD hS => ?_)
  have hP : va_P (dC, dI) vwCl [(a0, .inr (9, [.int 0, g8, g9, g10, g11, .ref a6, .int z38, g13, g14, g15, g16, g17, g18, g19, g20, g21, g22, g23, g24, g25, g26, g27, g28, g29, g30, g31, g32, g33, g34, g35])), (a6, .inl (cB36, 900, .inl (upd f37 (z38 : Int32).toNatClampNeg (vp_nar .byte z46))))] H := hP
  have hD : va_D A [(a0, .inr (9, [.int 0, g8, g9, g10, g11, .ref a6, .int z38, g13, g14, g15, g16, g17, g18, g19, g20, g21, g22, g23, g24, g25, g26, g27, g28, g29, g30, g31, g32, g33, g34, g35])), (a6, .inl (cB36, 900, .inl (upd f37 (z38 : Int32).toNatClampNeg (vp_nar .byte z46))))] := hD
  generalize upd f37 (z38 : Int32).toNatClampNeg (vp_nar .byte z46) = f47 at hP hD
  refine lv_aload_n hx hb dX12_feed_101 rfl (lv_at hl 2 rfl) ?_
  refine lv_dup hx hb dX12_feed_102 rfl ?_
  refine va_get (D := (dC, dI)) (ci := 9) (v := .int z38) (C := RX12) (T := TX12) (N := 30) hx hb hts iX12_feed_lo_X12 hown hK hP 0 rfl rfl 6 (by decide) (hts (.fieldLink RX12 292 "HookPierModel" "taped" "I") (List.mem_of_getElem? (i := 2) rfl)) (fun _ h9 => h9) rfl dX12_feed_103 ?_
  refine lv_iconst (v := 1) hx hb dX12_feed_106 (by decide) ?_
  refine lv_iadd hx hb dX12_feed_107 ?_
  refine lv_topi (fun z48 ez48 => ?_)
  have tz48 : z48.toInt = z38.toInt + 1 := by rw [ez48]; rw [iadd_t (by first | omega | (simp only [ltv_0, ltv_1]; omega)) (by first | omega | (simp only [ltv_0, ltv_1]; omega))]; first | done | (simp only [ltv_0, ltv_1])
  refine va_put (D := (dC, dI)) (ci := 9) (v := .int z48) (ty := .int) (C := RX12) (T := TX12) (N := 30) hx hb hts iX12_feed_lo_X12 tyX12 tyX12_ok nmX12 hown hK hP hD hS 0 rfl rfl 6 (by decide) (hts (.fieldLink RX12 292 "HookPierModel" "taped" "I") (List.mem_of_getElem? (i := 2) rfl)) (fun _ h9 => h9) rfl (by decide +kernel) rfl rfl (Nat.le_of_ble_eq_true rfl) dX12_feed_108 (fun H locs hP hD hS => ?_)
  have hP : va_P (dC, dI) vwCl [(a0, .inr (9, [.int 0, g8, g9, g10, g11, .ref a6, .int z48, g13, g14, g15, g16, g17, g18, g19, g20, g21, g22, g23, g24, g25, g26, g27, g28, g29, g30, g31, g32, g33, g34, g35])), (a6, .inl (cB36, 900, .inl f47))] H := hP
  have hD : va_D A [(a0, .inr (9, [.int 0, g8, g9, g10, g11, .ref a6, .int z48, g13, g14, g15, g16, g17, g18, g19, g20, g21, g22, g23, g24, g25, g26, g27, g28, g29, g30, g31, g32, g33, g34, g35])), (a6, .inl (cB36, 900, .inl f47))] := hD
  refine lv_iinc (v := 5) (lv' := [(6, .int 5), (7, .int k2), (0, .ref a0), (1, .int k1), (2, .int k2), (3, .int k3), (4, .int k4), (5, .int k5)]) hx hb dX12_feed_111 hl (k := 1) rfl (by decide) (by decide) rfl (fun ls hl => ?_)
  refine lv_goto (tgt := 23) hx hb dX12_feed_114 (by decide) ?_
  refine lv_iload hx hb dX12_feed_23 (lv_at hl 0 rfl) ?_
  refine lv_bipush (v := 20) hx hb dX12_feed_25 (by decide) ?_
  refine lv_icmp_ge (tgt := 117) hx hb dX12_feed_27 (by decide) (fun c49 => absurd c49 (by decide)) (fun _ => ?_)
  refine lv_iload hx hb dX12_feed_30 (lv_at hl 0 rfl) ?_
  refine lv_iconst (v := 4) hx hb dX12_feed_32 (by decide) ?_
  refine lv_icmp_ge (tgt := 40) hx hb dX12_feed_33 (by decide) (fun _ => ?_) (fun c50 => absurd c50 (by decide))
  refine lv_iload hx hb dX12_feed_40 (lv_at hl 0 rfl) ?_
  refine lv_bipush (v := 8) hx hb dX12_feed_42 (by decide) ?_
  refine lv_icmp_ge (tgt := 51) hx hb dX12_feed_44 (by decide) (fun c51 => absurd c51 (by decide)) (fun _ => ?_)
  refine lv_iload_n hx hb dX12_feed_47 rfl (lv_at hl 4 rfl) ?_
  refine lv_goto (tgt := 76) hx hb dX12_feed_48 (by decide) ?_
  refine lv_istore (lv' := [(7, .int k2), (6, .int 5), (0, .ref a0), (1, .int k1), (2, .int k2), (3, .int k3), (4, .int k4), (5, .int k5)]) hx hb dX12_feed_76 hl (by decide) rfl (fun ls hl => ?_)
  refine lv_aload_n hx hb dX12_feed_78 rfl (lv_at hl 2 rfl) ?_
  refine va_get (D := (dC, dI)) (ci := 9) (v := .ref a6) (C := RX12) (T := TX12) (N := 30) hx hb hts iX12_feed_lo_X12 hown hK hP 0 rfl rfl 5 (by decide) (hts (.fieldLink RX12 13 "HookPierModel" "tape" "[B") (List.mem_of_getElem? (i := 3) rfl)) (fun _ h9 => h9) rfl dX12_feed_79 ?_
  refine lv_aload_n hx hb dX12_feed_82 rfl (lv_at hl 2 rfl) ?_
  refine va_get (D := (dC, dI)) (ci := 9) (v := .int z48) (C := RX12) (T := TX12) (N := 30) hx hb hts iX12_feed_lo_X12 hown hK hP 0 rfl rfl 6 (by decide) (hts (.fieldLink RX12 292 "HookPierModel" "taped" "I") (List.mem_of_getElem? (i := 2) rfl)) (fun _ h9 => h9) rfl dX12_feed_83 ?_
  refine lv_iload hx hb dX12_feed_86 (lv_at hl 0 rfl) ?_
  refine lv_bipush (v := 24) hx hb dX12_feed_88 (by decide) ?_
  refine lv_bipush (v := 8) hx hb dX12_feed_90 (by decide) ?_
  refine lv_iload hx hb dX12_feed_92 (lv_at hl 1 rfl) ?_
  refine lv_iconst (v := 4) hx hb dX12_feed_94 (by decide) ?_
  refine lv_irem hx hb dX12_feed_95 (by decide) ?_
  refine lv_topi (fun z52 ez52 => ?_)
  obtain rfl : z52 = 1 := ez52.trans (by decide)
  refine lv_imul hx hb dX12_feed_96 ?_
  refine lv_topi (fun z53 ez53 => ?_)
  obtain rfl : z53 = 8 := ez53.trans (by decide)
  refine lv_isub hx hb dX12_feed_97 ?_
  refine lv_topi (fun z54 ez54 => ?_)
  obtain rfl : z54 = 16 := ez54.trans (by decide)
  refine lv_ishr hx hb dX12_feed_98 ?_
  refine lv_topi (fun z55 ez55 => ?_)
  clear ez55
  refine lv_i2b hx hb dX12_feed_99 rfl ?_
  refine lv_topi (fun z56 ez56 => ?_)
  clear ez56
  refine va_bast hx hb hK hP hD hS 1 0 rfl rfl (vp_in_iff.mpr (by omega)) dX12_feed_100 (fun H locs hP hD hS => ?_)
  have hP : va_P (dC, dI) vwCl [(a0, .inr (9, [.int 0, g8, g9, g10, g11, .ref a6, .int z48, g13, g14, g15, g16, g17, g18, g19, g20, g21, g22, g23, g24, g25, g26, g27, g28, g29, g30, g31, g32, g33, g34, g35])), (a6, .inl (cB36, 900, .inl (upd f47 (z48 : Int32).toNatClampNeg (vp_nar .byte z56))))] H := hP
  have hD : va_D A [(a0, .inr (9, [.int 0, g8, g9, g10, g11, .ref a6, .int z48, g13, g14, g15, g16, g17, g18, g19, g20, g21, g22, g23, g24, g25, g26, g27, g28, g29, g30, g31, g32, g33, g34, g35])), (a6, .inl (cB36, 900, .inl (upd f47 (z48 : Int32).toNatClampNeg (vp_nar .byte z56))))] := hD
  generalize upd f47 (z48 : Int32).toNatClampNeg (vp_nar .byte z56) = f57 at hP hD
  refine lv_aload_n hx hb dX12_feed_101 rfl (lv_at hl 2 rfl) ?_
  refine lv_dup hx hb dX12_feed_102 rfl ?_
  refine va_get (D := (dC, dI)) (ci := 9) (v := .int z48) (C := RX12) (T := TX12) (N := 30) hx hb hts iX12_feed_lo_X12 hown hK hP 0 rfl rfl 6 (by decide) (hts (.fieldLink RX12 292 "HookPierModel" "taped" "I") (List.mem_of_getElem? (i := 2) rfl)) (fun _ h9 => h9) rfl dX12_feed_103 ?_
  refine lv_iconst (v := 1) hx hb dX12_feed_106 (by decide) ?_
  refine lv_iadd hx hb dX12_feed_107 ?_
  refine lv_topi (fun z58 ez58 => ?_)
  have tz58 : z58.toInt = z48.toInt + 1 := by rw [ez58]; rw [iadd_t (by first | omega | (simp only [ltv_0, ltv_1]; omega)) (by first | omega | (simp only [ltv_0, ltv_1]; omega))]; first | done | (simp only [ltv_0, ltv_1])
  refine va_put (D := (dC, dI)) (ci := 9) (v := .int z58) (ty := .int) (C := RX12) (T := TX12) (N := 30) hx hb hts iX12_feed_lo_X12 tyX12 tyX12_ok nmX12 hown hK hP hD hS 0 rfl rfl 6 (by decide) (hts (.fieldLink RX12 292 "HookPierModel" "taped" "I") (List.mem_of_getElem? (i := 2) rfl)) (fun _ h9 => h9) rfl (by decide +kernel) rfl rfl (Nat.le_of_ble_eq_true rfl) dX12_feed_108 (fun H locs hP hD hS => ?_)
  have hP : va_P (dC, dI) vwCl [(a0, .inr (9, [.int 0, g8, g9, g10, g11, .ref a6, .int z58, g13, g14, g15, g16, g17, g18, g19, g20, g21, g22, g23, g24, g25, g26, g27, g28, g29, g30, g31, g32, g33, g34, g35])), (a6, .inl (cB36, 900, .inl f57))] H := hP
  have hD : va_D A [(a0, .inr (9, [.int 0, g8, g9, g10, g11, .ref a6, .int z58, g13, g14, g15, g16, g17, g18, g19, g20, g21, g22, g23, g24, g25, g26, g27, g28, g29, g30, g31, g32, g33, g34, g35])), (a6, .inl (cB36, 900, .inl f57))] := hD
  refine lv_iinc (v := 6) (lv' := [(6, .int 6), (7, .int k2), (0, .ref a0), (1, .int k1), (2, .int k2), (3, .int k3), (4, .int k4), (5, .int k5)]) hx hb dX12_feed_111 hl (k := 1) rfl (by decide) (by decide) rfl (fun ls hl => ?_)
  refine lv_goto (tgt := 23) hx hb dX12_feed_114 (by decide) ?_
  refine lv_iload hx hb dX12_feed_23 (lv_at hl 0 rfl) ?_
  refine lv_bipush (v := 20) hx hb dX12_feed_25 (by decide) ?_
  refine lv_icmp_ge (tgt := 117) hx hb dX12_feed_27 (by decide) (fun c59 => absurd c59 (by decide)) (fun _ => ?_)
  refine lv_iload hx hb dX12_feed_30 (lv_at hl 0 rfl) ?_
  refine lv_iconst (v := 4) hx hb dX12_feed_32 (by decide) ?_
  refine lv_icmp_ge (tgt := 40) hx hb dX12_feed_33 (by decide) (fun _ => ?_) (fun c60 => absurd c60 (by decide))
  refine lv_iload hx hb dX12_feed_40 (lv_at hl 0 rfl) ?_
  refine lv_bipush (v := 8) hx hb dX12_feed_42 (by decide) ?_
  refine lv_icmp_ge (tgt := 51) hx hb dX12_feed_44 (by decide) (fun c61 => absurd c61 (by decide)) (fun _ => ?_)
  refine lv_iload_n hx hb dX12_feed_47 rfl (lv_at hl 4 rfl) ?_
  refine lv_goto (tgt := 76) hx hb dX12_feed_48 (by decide) ?_
  refine lv_istore (lv' := [(7, .int k2), (6, .int 6), (0, .ref a0), (1, .int k1), (2, .int k2), (3, .int k3), (4, .int k4), (5, .int k5)]) hx hb dX12_feed_76 hl (by decide) rfl (fun ls hl => ?_)
  refine lv_aload_n hx hb dX12_feed_78 rfl (lv_at hl 2 rfl) ?_
  refine va_get (D := (dC, dI)) (ci := 9) (v := .ref a6) (C := RX12) (T := TX12) (N := 30) hx hb hts iX12_feed_lo_X12 hown hK hP 0 rfl rfl 5 (by decide) (hts (.fieldLink RX12 13 "HookPierModel" "tape" "[B") (List.mem_of_getElem? (i := 3) rfl)) (fun _ h9 => h9) rfl dX12_feed_79 ?_
  refine lv_aload_n hx hb dX12_feed_82 rfl (lv_at hl 2 rfl) ?_
  refine va_get (D := (dC, dI)) (ci := 9) (v := .int z58) (C := RX12) (T := TX12) (N := 30) hx hb hts iX12_feed_lo_X12 hown hK hP 0 rfl rfl 6 (by decide) (hts (.fieldLink RX12 292 "HookPierModel" "taped" "I") (List.mem_of_getElem? (i := 2) rfl)) (fun _ h9 => h9) rfl dX12_feed_83 ?_
  refine lv_iload hx hb dX12_feed_86 (lv_at hl 0 rfl) ?_
  refine lv_bipush (v := 24) hx hb dX12_feed_88 (by decide) ?_
  refine lv_bipush (v := 8) hx hb dX12_feed_90 (by decide) ?_
  refine lv_iload hx hb dX12_feed_92 (lv_at hl 1 rfl) ?_
  refine lv_iconst (v := 4) hx hb dX12_feed_94 (by decide) ?_
  refine lv_irem hx hb dX12_feed_95 (by decide) ?_
  refine lv_topi (fun z62 ez62 => ?_)
  obtain rfl : z62 = 2 := ez62.trans (by decide)
  refine lv_imul hx hb dX12_feed_96 ?_
  refine lv_topi (fun z63 ez63 => ?_)
  obtain rfl : z63 = 16 := ez63.trans (by decide)
  refine lv_isub hx hb dX12_feed_97 ?_
  refine lv_topi (fun z64 ez64 => ?_)
  obtain rfl : z64 = 8 := ez64.trans (by decide)
  refine lv_ishr hx hb dX12_feed_98 ?_
  refine lv_topi (fun z65 ez65 => ?_)
  clear ez65
  refine lv_i2b hx hb dX12_feed_99 rfl ?_
  refine lv_topi (fun z66 ez66 => ?_)
  clear ez66
  refine va_bast hx hb hK hP hD hS 1 0 rfl rfl (vp_in_iff.mpr (by omega)) dX12_feed_100 (fun H locs hP hD hS => ?_)
  have hP : va_P (dC, dI) vwCl [(a0, .inr (9, [.int 0, g8, g9, g10, g11, .ref a6, .int z58, g13, g14, g15, g16, g17, g18, g19, g20, g21, g22, g23, g24, g25, g26, g27, g28, g29, g30, g31, g32, g33, g34, g35])), (a6, .inl (cB36, 900, .inl (upd f57 (z58 : Int32).toNatClampNeg (vp_nar .byte z66))))] H := hP
  have hD : va_D A [(a0, .inr (9, [.int 0, g8, g9, g10, g11, .ref a6, .int z58, g13, g14, g15, g16, g17, g18, g19, g20, g21, g22, g23, g24, g25, g26, g27, g28, g29, g30, g31, g32, g33, g34, g35])), (a6, .inl (cB36, 900, .inl (upd f57 (z58 : Int32).toNatClampNeg (vp_nar .byte z66))))] := hD
  generalize upd f57 (z58 : Int32).toNatClampNeg (vp_nar .byte z66) = f67 at hP hD
  refine lv_aload_n hx hb dX12_feed_101 rfl (lv_at hl 2 rfl) ?_
  refine lv_dup hx hb dX12_feed_102 rfl ?_
  refine va_get (D := (dC, dI)) (ci := 9) (v := .int z58) (C := RX12) (T := TX12) (N := 30) hx hb hts iX12_feed_lo_X12 hown hK hP 0 rfl rfl 6 (by decide) (hts (.fieldLink RX12 292 "HookPierModel" "taped" "I") (List.mem_of_getElem? (i := 2) rfl)) (fun _ h9 => h9) rfl dX12_feed_103 ?_
  refine lv_iconst (v := 1) hx hb dX12_feed_106 (by decide) ?_
  refine lv_iadd hx hb dX12_feed_107 ?_
  refine lv_topi (fun z68 ez68 => ?_)
  have tz68 : z68.toInt = z58.toInt + 1 := by rw [ez68]; rw [iadd_t (by first | omega | (simp only [ltv_0, ltv_1]; omega)) (by first | omega | (simp only [ltv_0, ltv_1]; omega))]; first | done | (simp only [ltv_0, ltv_1])
  refine va_put (D := (dC, dI)) (ci := 9) (v := .int z68) (ty := .int) (C := RX12) (T := TX12) (N := 30) hx hb hts iX12_feed_lo_X12 tyX12 tyX12_ok nmX12 hown hK hP hD hS 0 rfl rfl 6 (by decide) (hts (.fieldLink RX12 292 "HookPierModel" "taped" "I") (List.mem_of_getElem? (i := 2) rfl)) (fun _ h9 => h9) rfl (by decide +kernel) rfl rfl (Nat.le_of_ble_eq_true rfl) dX12_feed_108 (fun H locs hP hD hS => ?_)
  have hP : va_P (dC, dI) vwCl [(a0, .inr (9, [.int 0, g8, g9, g10, g11, .ref a6, .int z68, g13, g14, g15, g16, g17, g18, g19, g20, g21, g22, g23, g24, g25, g26, g27, g28, g29, g30, g31, g32, g33, g34, g35])), (a6, .inl (cB36, 900, .inl f67))] H := hP
  have hD : va_D A [(a0, .inr (9, [.int 0, g8, g9, g10, g11, .ref a6, .int z68, g13, g14, g15, g16, g17, g18, g19, g20, g21, g22, g23, g24, g25, g26, g27, g28, g29, g30, g31, g32, g33, g34, g35])), (a6, .inl (cB36, 900, .inl f67))] := hD
  refine lv_iinc (v := 7) (lv' := [(6, .int 7), (7, .int k2), (0, .ref a0), (1, .int k1), (2, .int k2), (3, .int k3), (4, .int k4), (5, .int k5)]) hx hb dX12_feed_111 hl (k := 1) rfl (by decide) (by decide) rfl (fun ls hl => ?_)
  refine lv_goto (tgt := 23) hx hb dX12_feed_114 (by decide) ?_
  refine lv_iload hx hb dX12_feed_23 (lv_at hl 0 rfl) ?_
  refine lv_bipush (v := 20) hx hb dX12_feed_25 (by decide) ?_
  refine lv_icmp_ge (tgt := 117) hx hb dX12_feed_27 (by decide) (fun c69 => absurd c69 (by decide)) (fun _ => ?_)
  refine lv_iload hx hb dX12_feed_30 (lv_at hl 0 rfl) ?_
  refine lv_iconst (v := 4) hx hb dX12_feed_32 (by decide) ?_
  refine lv_icmp_ge (tgt := 40) hx hb dX12_feed_33 (by decide) (fun _ => ?_) (fun c70 => absurd c70 (by decide))
  refine lv_iload hx hb dX12_feed_40 (lv_at hl 0 rfl) ?_
  refine lv_bipush (v := 8) hx hb dX12_feed_42 (by decide) ?_
  refine lv_icmp_ge (tgt := 51) hx hb dX12_feed_44 (by decide) (fun c71 => absurd c71 (by decide)) (fun _ => ?_)
  refine lv_iload_n hx hb dX12_feed_47 rfl (lv_at hl 4 rfl) ?_
  refine lv_goto (tgt := 76) hx hb dX12_feed_48 (by decide) ?_
  refine lv_istore (lv' := [(7, .int k2), (6, .int 7), (0, .ref a0), (1, .int k1), (2, .int k2), (3, .int k3), (4, .int k4), (5, .int k5)]) hx hb dX12_feed_76 hl (by decide) rfl (fun ls hl => ?_)
  refine lv_aload_n hx hb dX12_feed_78 rfl (lv_at hl 2 rfl) ?_
  refine va_get (D := (dC, dI)) (ci := 9) (v := .ref a6) (C := RX12) (T := TX12) (N := 30) hx hb hts iX12_feed_lo_X12 hown hK hP 0 rfl rfl 5 (by decide) (hts (.fieldLink RX12 13 "HookPierModel" "tape" "[B") (List.mem_of_getElem? (i := 3) rfl)) (fun _ h9 => h9) rfl dX12_feed_79 ?_
  refine lv_aload_n hx hb dX12_feed_82 rfl (lv_at hl 2 rfl) ?_
  refine va_get (D := (dC, dI)) (ci := 9) (v := .int z68) (C := RX12) (T := TX12) (N := 30) hx hb hts iX12_feed_lo_X12 hown hK hP 0 rfl rfl 6 (by decide) (hts (.fieldLink RX12 292 "HookPierModel" "taped" "I") (List.mem_of_getElem? (i := 2) rfl)) (fun _ h9 => h9) rfl dX12_feed_83 ?_
  refine lv_iload hx hb dX12_feed_86 (lv_at hl 0 rfl) ?_
  refine lv_bipush (v := 24) hx hb dX12_feed_88 (by decide) ?_
  refine lv_bipush (v := 8) hx hb dX12_feed_90 (by decide) ?_
  refine lv_iload hx hb dX12_feed_92 (lv_at hl 1 rfl) ?_
  refine lv_iconst (v := 4) hx hb dX12_feed_94 (by decide) ?_
  refine lv_irem hx hb dX12_feed_95 (by decide) ?_
  refine lv_topi (fun z72 ez72 => ?_)
  obtain rfl : z72 = 3 := ez72.trans (by decide)
  refine lv_imul hx hb dX12_feed_96 ?_
  refine lv_topi (fun z73 ez73 => ?_)
  obtain rfl : z73 = 24 := ez73.trans (by decide)
  refine lv_isub hx hb dX12_feed_97 ?_
  refine lv_topi (fun z74 ez74 => ?_)
  obtain rfl : z74 = 0 := ez74.trans (by decide)
  refine lv_ishr hx hb dX12_feed_98 ?_
  refine lv_topi (fun z75 ez75 => ?_)
  clear ez75
  refine lv_i2b hx hb dX12_feed_99 rfl ?_
  refine lv_topi (fun z76 ez76 => ?_)
  clear ez76
  refine va_bast hx hb hK hP hD hS 1 0 rfl rfl (vp_in_iff.mpr (by omega)) dX12_feed_100 (fun H locs hP hD hS => ?_)
  have hP : va_P (dC, dI) vwCl [(a0, .inr (9, [.int 0, g8, g9, g10, g11, .ref a6, .int z68, g13, g14, g15, g16, g17, g18, g19, g20, g21, g22, g23, g24, g25, g26, g27, g28, g29, g30, g31, g32, g33, g34, g35])), (a6, .inl (cB36, 900, .inl (upd f67 (z68 : Int32).toNatClampNeg (vp_nar .byte z76))))] H := hP
  have hD : va_D A [(a0, .inr (9, [.int 0, g8, g9, g10, g11, .ref a6, .int z68, g13, g14, g15, g16, g17, g18, g19, g20, g21, g22, g23, g24, g25, g26, g27, g28, g29, g30, g31, g32, g33, g34, g35])), (a6, .inl (cB36, 900, .inl (upd f67 (z68 : Int32).toNatClampNeg (vp_nar .byte z76))))] := hD
  generalize upd f67 (z68 : Int32).toNatClampNeg (vp_nar .byte z76) = f77 at hP hD
  refine lv_aload_n hx hb dX12_feed_101 rfl (lv_at hl 2 rfl) ?_
  refine lv_dup hx hb dX12_feed_102 rfl ?_
  refine va_get (D := (dC, dI)) (ci := 9) (v := .int z68) (C := RX12) (T := TX12) (N := 30) hx hb hts iX12_feed_lo_X12 hown hK hP 0 rfl rfl 6 (by decide) (hts (.fieldLink RX12 292 "HookPierModel" "taped" "I") (List.mem_of_getElem? (i := 2) rfl)) (fun _ h9 => h9) rfl dX12_feed_103 ?_
  refine lv_iconst (v := 1) hx hb dX12_feed_106 (by decide) ?_
  refine lv_iadd hx hb dX12_feed_107 ?_
  refine lv_topi (fun z78 ez78 => ?_)
  have tz78 : z78.toInt = z68.toInt + 1 := by rw [ez78]; rw [iadd_t (by first | omega | (simp only [ltv_0, ltv_1]; omega)) (by first | omega | (simp only [ltv_0, ltv_1]; omega))]; first | done | (simp only [ltv_0, ltv_1])
  refine va_put (D := (dC, dI)) (ci := 9) (v := .int z78) (ty := .int) (C := RX12) (T := TX12) (N := 30) hx hb hts iX12_feed_lo_X12 tyX12 tyX12_ok nmX12 hown hK hP hD hS 0 rfl rfl 6 (by decide) (hts (.fieldLink RX12 292 "HookPierModel" "taped" "I") (List.mem_of_getElem? (i := 2) rfl)) (fun _ h9 => h9) rfl (by decide +kernel) rfl rfl (Nat.le_of_ble_eq_true rfl) dX12_feed_108 (fun H locs hP hD hS => ?_)
  have hP : va_P (dC, dI) vwCl [(a0, .inr (9, [.int 0, g8, g9, g10, g11, .ref a6, .int z78, g13, g14, g15, g16, g17, g18, g19, g20, g21, g22, g23, g24, g25, g26, g27, g28, g29, g30, g31, g32, g33, g34, g35])), (a6, .inl (cB36, 900, .inl f77))] H := hP
  have hD : va_D A [(a0, .inr (9, [.int 0, g8, g9, g10, g11, .ref a6, .int z78, g13, g14, g15, g16, g17, g18, g19, g20, g21, g22, g23, g24, g25, g26, g27, g28, g29, g30, g31, g32, g33, g34, g35])), (a6, .inl (cB36, 900, .inl f77))] := hD
  refine lv_iinc (v := 8) (lv' := [(6, .int 8), (7, .int k2), (0, .ref a0), (1, .int k1), (2, .int k2), (3, .int k3), (4, .int k4), (5, .int k5)]) hx hb dX12_feed_111 hl (k := 1) rfl (by decide) (by decide) rfl (fun ls hl => ?_)
  refine lv_goto (tgt := 23) hx hb dX12_feed_114 (by decide) ?_
  refine lv_iload hx hb dX12_feed_23 (lv_at hl 0 rfl) ?_
  refine lv_bipush (v := 20) hx hb dX12_feed_25 (by decide) ?_
  refine lv_icmp_ge (tgt := 117) hx hb dX12_feed_27 (by decide) (fun c79 => absurd c79 (by decide)) (fun _ => ?_)
  refine lv_iload hx hb dX12_feed_30 (lv_at hl 0 rfl) ?_
  refine lv_iconst (v := 4) hx hb dX12_feed_32 (by decide) ?_
  refine lv_icmp_ge (tgt := 40) hx hb dX12_feed_33 (by decide) (fun _ => ?_) (fun c80 => absurd c80 (by decide))
  refine lv_iload hx hb dX12_feed_40 (lv_at hl 0 rfl) ?_
  refine lv_bipush (v := 8) hx hb dX12_feed_42 (by decide) ?_
  refine lv_icmp_ge (tgt := 51) hx hb dX12_feed_44 (by decide) (fun _ => ?_) (fun c81 => absurd c81 (by decide))
  refine lv_iload hx hb dX12_feed_51 (lv_at hl 0 rfl) ?_
  refine lv_bipush (v := 12) hx hb dX12_feed_53 (by decide) ?_
  refine lv_icmp_ge (tgt := 62) hx hb dX12_feed_55 (by decide) (fun c82 => absurd c82 (by decide)) (fun _ => ?_)
  refine lv_iload_n hx hb dX12_feed_58 rfl (lv_at hl 5 rfl) ?_
  refine lv_goto (tgt := 76) hx hb dX12_feed_59 (by decide) ?_
  refine lv_istore (lv' := [(7, .int k3), (6, .int 8), (0, .ref a0), (1, .int k1), (2, .int k2), (3, .int k3), (4, .int k4), (5, .int k5)]) hx hb dX12_feed_76 hl (by decide) rfl (fun ls hl => ?_)
  refine lv_aload_n hx hb dX12_feed_78 rfl (lv_at hl 2 rfl) ?_
  refine va_get (D := (dC, dI)) (ci := 9) (v := .ref a6) (C := RX12) (T := TX12) (N := 30) hx hb hts iX12_feed_lo_X12 hown hK hP 0 rfl rfl 5 (by decide) (hts (.fieldLink RX12 13 "HookPierModel" "tape" "[B") (List.mem_of_getElem? (i := 3) rfl)) (fun _ h9 => h9) rfl dX12_feed_79 ?_
  refine lv_aload_n hx hb dX12_feed_82 rfl (lv_at hl 2 rfl) ?_
  refine va_get (D := (dC, dI)) (ci := 9) (v := .int z78) (C := RX12) (T := TX12) (N := 30) hx hb hts iX12_feed_lo_X12 hown hK hP 0 rfl rfl 6 (by decide) (hts (.fieldLink RX12 292 "HookPierModel" "taped" "I") (List.mem_of_getElem? (i := 2) rfl)) (fun _ h9 => h9) rfl dX12_feed_83 ?_
  refine lv_iload hx hb dX12_feed_86 (lv_at hl 0 rfl) ?_
  refine lv_bipush (v := 24) hx hb dX12_feed_88 (by decide) ?_
  refine lv_bipush (v := 8) hx hb dX12_feed_90 (by decide) ?_
  refine lv_iload hx hb dX12_feed_92 (lv_at hl 1 rfl) ?_
  refine lv_iconst (v := 4) hx hb dX12_feed_94 (by decide) ?_
  refine lv_irem hx hb dX12_feed_95 (by decide) ?_
  refine lv_topi (fun z83 ez83 => ?_)
  obtain rfl : z83 = 0 := ez83.trans (by decide)
  refine lv_imul hx hb dX12_feed_96 ?_
  refine lv_topi (fun z84 ez84 => ?_)
  obtain rfl : z84 = 0 := ez84.trans (by decide)
  refine lv_isub hx hb dX12_feed_97 ?_
  refine lv_topi (fun z85 ez85 => ?_)
  obtain rfl : z85 = 24 := ez85.trans (by decide)
  refine lv_ishr hx hb dX12_feed_98 ?_
  refine lv_topi (fun z86 ez86 => ?_)
  clear ez86
  refine lv_i2b hx hb dX12_feed_99 rfl ?_
  refine lv_topi (fun z87 ez87 => ?_)
  clear ez87
  refine va_bast hx hb hK hP hD hS 1 0 rfl rfl (vp_in_iff.mpr (by omega)) dX12_feed_100 (fun H locs hP hD hS => ?_)
  have hP : va_P (dC, dI) vwCl [(a0, .inr (9, [.int 0, g8, g9, g10, g11, .ref a6, .int z78, g13, g14, g15, g16, g17, g18, g19, g20, g21, g22, g23, g24, g25, g26, g27, g28, g29, g30, g31, g32, g33, g34, g35])), (a6, .inl (cB36, 900, .inl (upd f77 (z78 : Int32).toNatClampNeg (vp_nar .byte z87))))] H := hP
  have hD : va_D A [(a0, .inr (9, [.int 0, g8, g9, g10, g11, .ref a6, .int z78, g13, g14, g15, g16, g17, g18, g19, g20, g21, g22, g23, g24, g25, g26, g27, g28, g29, g30, g31, g32, g33, g34, g35])), (a6, .inl (cB36, 900, .inl (upd f77 (z78 : Int32).toNatClampNeg (vp_nar .byte z87))))] := hD
  generalize upd f77 (z78 : Int32).toNatClampNeg (vp_nar .byte z87) = f88 at hP hD
  refine lv_aload_n hx hb dX12_feed_101 rfl (lv_at hl 2 rfl) ?_
  refine lv_dup hx hb dX12_feed_102 rfl ?_
  refine va_get (D := (dC, dI)) (ci := 9) (v := .int z78) (C := RX12) (T := TX12) (N := 30) hx hb hts iX12_feed_lo_X12 hown hK hP 0 rfl rfl 6 (by decide) (hts (.fieldLink RX12 292 "HookPierModel" "taped" "I") (List.mem_of_getElem? (i := 2) rfl)) (fun _ h9 => h9) rfl dX12_feed_103 ?_
  refine lv_iconst (v := 1) hx hb dX12_feed_106 (by decide) ?_
  refine lv_iadd hx hb dX12_feed_107 ?_
  refine lv_topi (fun z89 ez89 => ?_)
  have tz89 : z89.toInt = z78.toInt + 1 := by rw [ez89]; rw [iadd_t (by first | omega | (simp only [ltv_0, ltv_1]; omega)) (by first | omega | (simp only [ltv_0, ltv_1]; omega))]; first | done | (simp only [ltv_0, ltv_1])
  refine va_put (D := (dC, dI)) (ci := 9) (v := .int z89) (ty := .int) (C := RX12) (T := TX12) (N := 30) hx hb hts iX12_feed_lo_X12 tyX12 tyX12_ok nmX12 hown hK hP hD hS 0 rfl rfl 6 (by decide) (hts (.fieldLink RX12 292 "HookPierModel" "taped" "I") (List.mem_of_getElem? (i := 2) rfl)) (fun _ h9 => h9) rfl (by decide +kernel) rfl rfl (Nat.le_of_ble_eq_true rfl) dX12_feed_108 (fun H locs hP hD hS => ?_)
  have hP : va_P (dC, dI) vwCl [(a0, .inr (9, [.int 0, g8, g9, g10, g11, .ref a6, .int z89, g13, g14, g15, g16, g17, g18, g19, g20, g21, g22, g23, g24, g25, g26, g27, g28, g29, g30, g31, g32, g33, g34, g35])), (a6, .inl (cB36, 900, .inl f88))] H := hP
  have hD : va_D A [(a0, .inr (9, [.int 0, g8, g9, g10, g11, .ref a6, .int z89, g13, g14, g15, g16, g17, g18, g19, g20, g21, g22, g23, g24, g25, g26, g27, g28, g29, g30, g31, g32, g33, g34, g35])), (a6, .inl (cB36, 900, .inl f88))] := hD
  refine lv_iinc (v := 9) (lv' := [(6, .int 9), (7, .int k3), (0, .ref a0), (1, .int k1), (2, .int k2), (3, .int k3), (4, .int k4), (5, .int k5)]) hx hb dX12_feed_111 hl (k := 1) rfl (by decide) (by decide) rfl (fun ls hl => ?_)
  refine lv_goto (tgt := 23) hx hb dX12_feed_114 (by decide) ?_
  refine lv_iload hx hb dX12_feed_23 (lv_at hl 0 rfl) ?_
  refine lv_bipush (v := 20) hx hb dX12_feed_25 (by decide) ?_
  refine lv_icmp_ge (tgt := 117) hx hb dX12_feed_27 (by decide) (fun c90 => absurd c90 (by decide)) (fun _ => ?_)
  refine lv_iload hx hb dX12_feed_30 (lv_at hl 0 rfl) ?_
  refine lv_iconst (v := 4) hx hb dX12_feed_32 (by decide) ?_
  refine lv_icmp_ge (tgt := 40) hx hb dX12_feed_33 (by decide) (fun _ => ?_) (fun c91 => absurd c91 (by decide))
  refine lv_iload hx hb dX12_feed_40 (lv_at hl 0 rfl) ?_
  refine lv_bipush (v := 8) hx hb dX12_feed_42 (by decide) ?_
  refine lv_icmp_ge (tgt := 51) hx hb dX12_feed_44 (by decide) (fun _ => ?_) (fun c92 => absurd c92 (by decide))
  refine lv_iload hx hb dX12_feed_51 (lv_at hl 0 rfl) ?_
  refine lv_bipush (v := 12) hx hb dX12_feed_53 (by decide) ?_
  refine lv_icmp_ge (tgt := 62) hx hb dX12_feed_55 (by decide) (fun c93 => absurd c93 (by decide)) (fun _ => ?_)
  refine lv_iload_n hx hb dX12_feed_58 rfl (lv_at hl 5 rfl) ?_
  refine lv_goto (tgt := 76) hx hb dX12_feed_59 (by decide) ?_
  refine lv_istore (lv' := [(7, .int k3), (6, .int 9), (0, .ref a0), (1, .int k1), (2, .int k2), (3, .int k3), (4, .int k4), (5, .int k5)]) hx hb dX12_feed_76 hl (by decide) rfl (fun ls hl => ?_)
  refine lv_aload_n hx hb dX12_feed_78 rfl (lv_at hl 2 rfl) ?_
  refine va_get (D := (dC, dI)) (ci := 9) (v := .ref a6) (C := RX12) (T := TX12) (N := 30) hx hb hts iX12_feed_lo_X12 hown hK hP 0 rfl rfl 5 (by decide) (hts (.fieldLink RX12 13 "HookPierModel" "tape" "[B") (List.mem_of_getElem? (i := 3) rfl)) (fun _ h9 => h9) rfl dX12_feed_79 ?_
  refine lv_aload_n hx hb dX12_feed_82 rfl (lv_at hl 2 rfl) ?_
  refine va_get (D := (dC, dI)) (ci := 9) (v := .int z89) (C := RX12) (T := TX12) (N := 30) hx hb hts iX12_feed_lo_X12 hown hK hP 0 rfl rfl 6 (by decide) (hts (.fieldLink RX12 292 "HookPierModel" "taped" "I") (List.mem_of_getElem? (i := 2) rfl)) (fun _ h9 => h9) rfl dX12_feed_83 ?_
  refine lv_iload hx hb dX12_feed_86 (lv_at hl 0 rfl) ?_
  refine lv_bipush (v := 24) hx hb dX12_feed_88 (by decide) ?_
  refine lv_bipush (v := 8) hx hb dX12_feed_90 (by decide) ?_
  refine lv_iload hx hb dX12_feed_92 (lv_at hl 1 rfl) ?_
  refine lv_iconst (v := 4) hx hb dX12_feed_94 (by decide) ?_
  refine lv_irem hx hb dX12_feed_95 (by decide) ?_
  refine lv_topi (fun z94 ez94 => ?_)
  obtain rfl : z94 = 1 := ez94.trans (by decide)
  refine lv_imul hx hb dX12_feed_96 ?_
  refine lv_topi (fun z95 ez95 => ?_)
  obtain rfl : z95 = 8 := ez95.trans (by decide)
  refine lv_isub hx hb dX12_feed_97 ?_
  refine lv_topi (fun z96 ez96 => ?_)
  obtain rfl : z96 = 16 := ez96.trans (by decide)
  refine lv_ishr hx hb dX12_feed_98 ?_
  refine lv_topi (fun z97 ez97 => ?_)
  clear ez97
  refine lv_i2b hx hb dX12_feed_99 rfl ?_
  refine lv_topi (fun z98 ez98 => ?_)
  clear ez98
  refine va_bast hx hb hK hP hD hS 1 0 rfl rfl (vp_in_iff.mpr (by omega)) dX12_feed_100 (fun H locs hP hD hS => ?_)
  have hP : va_P (dC, dI) vwCl [(a0, .inr (9, [.int 0, g8, g9, g10, g11, .ref a6, .int z89, g13, g14, g15, g16, g17, g18, g19, g20, g21, g22, g23, g24, g25, g26, g27, g28, g29, g30, g31, g32, g33, g34, g35])), (a6, .inl (cB36, 900, .inl (upd f88 (z89 : Int32).toNatClampNeg (vp_nar .byte z98))))] H := hP
  have hD : va_D A [(a0, .inr (9, [.int 0, g8, g9, g10, g11, .ref a6, .int z89, g13, g14, g15, g16, g17, g18, g19, g20, g21, g22, g23, g24, g25, g26, g27, g28, g29, g30, g31, g32, g33, g34, g35])), (a6, .inl (cB36, 900, .inl (upd f88 (z89 : Int32).toNatClampNeg (vp_nar .byte z98))))] := hD
  generalize upd f88 (z89 : Int32).toNatClampNeg (vp_nar .byte z98) = f99 at hP hD
  refine lv_aload_n hx hb dX12_feed_101 rfl (lv_at hl 2 rfl) ?_
  refine lv_dup hx hb dX12_feed_102 rfl ?_
  refine va_get (D := (dC, dI)) (ci := 9) (v := .int z89) (C := RX12) (T := TX12) (N := 30) hx hb hts iX12_feed_lo_X12 hown hK hP 0 rfl rfl 6 (by decide) (hts (.fieldLink RX12 292 "HookPierModel" "taped" "I") (List.mem_of_getElem? (i := 2) rfl)) (fun _ h9 => h9) rfl dX12_feed_103 ?_
  refine lv_iconst (v := 1) hx hb dX12_feed_106 (by decide) ?_
  refine lv_iadd hx hb dX12_feed_107 ?_
  refine lv_topi (fun z100 ez100 => ?_)
  have tz100 : z100.toInt = z89.toInt + 1 := by rw [ez100]; rw [iadd_t (by first | omega | (simp only [ltv_0, ltv_1]; omega)) (by first | omega | (simp only [ltv_0, ltv_1]; omega))]; first | done | (simp only [ltv_0, ltv_1])
  refine va_put (D := (dC, dI)) (ci := 9) (v := .int z100) (ty := .int) (C := RX12) (T := TX12) (N := 30) hx hb hts iX12_feed_lo_X12 tyX12 tyX12_ok nmX12 hown hK hP hD hS 0 rfl rfl 6 (by decide) (hts (.fieldLink RX12 292 "HookPierModel" "taped" "I") (List.mem_of_getElem? (i := 2) rfl)) (fun _ h9 => h9) rfl (by decide +kernel) rfl rfl (Nat.le_of_ble_eq_true rfl) dX12_feed_108 (fun H locs hP hD hS => ?_)
  have hP : va_P (dC, dI) vwCl [(a0, .inr (9, [.int 0, g8, g9, g10, g11, .ref a6, .int z100, g13, g14, g15, g16, g17, g18, g19, g20, g21, g22, g23, g24, g25, g26, g27, g28, g29, g30, g31, g32, g33, g34, g35])), (a6, .inl (cB36, 900, .inl f99))] H := hP
  have hD : va_D A [(a0, .inr (9, [.int 0, g8, g9, g10, g11, .ref a6, .int z100, g13, g14, g15, g16, g17, g18, g19, g20, g21, g22, g23, g24, g25, g26, g27, g28, g29, g30, g31, g32, g33, g34, g35])), (a6, .inl (cB36, 900, .inl f99))] := hD
  refine lv_iinc (v := 10) (lv' := [(6, .int 10), (7, .int k3), (0, .ref a0), (1, .int k1), (2, .int k2), (3, .int k3), (4, .int k4), (5, .int k5)]) hx hb dX12_feed_111 hl (k := 1) rfl (by decide) (by decide) rfl (fun ls hl => ?_)
  refine lv_goto (tgt := 23) hx hb dX12_feed_114 (by decide) ?_
  refine lv_iload hx hb dX12_feed_23 (lv_at hl 0 rfl) ?_
  refine lv_bipush (v := 20) hx hb dX12_feed_25 (by decide) ?_
  refine lv_icmp_ge (tgt := 117) hx hb dX12_feed_27 (by decide) (fun c101 => absurd c101 (by decide)) (fun _ => ?_)
  refine lv_iload hx hb dX12_feed_30 (lv_at hl 0 rfl) ?_
  refine lv_iconst (v := 4) hx hb dX12_feed_32 (by decide) ?_
  refine lv_icmp_ge (tgt := 40) hx hb dX12_feed_33 (by decide) (fun _ => ?_) (fun c102 => absurd c102 (by decide))
  refine lv_iload hx hb dX12_feed_40 (lv_at hl 0 rfl) ?_
  refine lv_bipush (v := 8) hx hb dX12_feed_42 (by decide) ?_
  refine lv_icmp_ge (tgt := 51) hx hb dX12_feed_44 (by decide) (fun _ => ?_) (fun c103 => absurd c103 (by decide))
  refine lv_iload hx hb dX12_feed_51 (lv_at hl 0 rfl) ?_
  refine lv_bipush (v := 12) hx hb dX12_feed_53 (by decide) ?_
  refine lv_icmp_ge (tgt := 62) hx hb dX12_feed_55 (by decide) (fun c104 => absurd c104 (by decide)) (fun _ => ?_)
  refine lv_iload_n hx hb dX12_feed_58 rfl (lv_at hl 5 rfl) ?_
  refine lv_goto (tgt := 76) hx hb dX12_feed_59 (by decide) ?_
  refine lv_istore (lv' := [(7, .int k3), (6, .int 10), (0, .ref a0), (1, .int k1), (2, .int k2), (3, .int k3), (4, .int k4), (5, .int k5)]) hx hb dX12_feed_76 hl (by decide) rfl (fun ls hl => ?_)
  refine lv_aload_n hx hb dX12_feed_78 rfl (lv_at hl 2 rfl) ?_
  refine va_get (D := (dC, dI)) (ci := 9) (v := .ref a6) (C := RX12) (T := TX12) (N := 30) hx hb hts iX12_feed_lo_X12 hown hK hP 0 rfl rfl 5 (by decide) (hts (.fieldLink RX12 13 "HookPierModel" "tape" "[B") (List.mem_of_getElem? (i := 3) rfl)) (fun _ h9 => h9) rfl dX12_feed_79 ?_
  refine lv_aload_n hx hb dX12_feed_82 rfl (lv_at hl 2 rfl) ?_
  refine va_get (D := (dC, dI)) (ci := 9) (v := .int z100) (C := RX12) (T := TX12) (N := 30) hx hb hts iX12_feed_lo_X12 hown hK hP 0 rfl rfl 6 (by decide) (hts (.fieldLink RX12 292 "HookPierModel" "taped" "I") (List.mem_of_getElem? (i := 2) rfl)) (fun _ h9 => h9) rfl dX12_feed_83 ?_
  refine lv_iload hx hb dX12_feed_86 (lv_at hl 0 rfl) ?_
  refine lv_bipush (v := 24) hx hb dX12_feed_88 (by decide) ?_
  refine lv_bipush (v := 8) hx hb dX12_feed_90 (by decide) ?_
  refine lv_iload hx hb dX12_feed_92 (lv_at hl 1 rfl) ?_
  refine lv_iconst (v := 4) hx hb dX12_feed_94 (by decide) ?_
  refine lv_irem hx hb dX12_feed_95 (by decide) ?_
  refine lv_topi (fun z105 ez105 => ?_)
  obtain rfl : z105 = 2 := ez105.trans (by decide)
  refine lv_imul hx hb dX12_feed_96 ?_
  refine lv_topi (fun z106 ez106 => ?_)
  obtain rfl : z106 = 16 := ez106.trans (by decide)
  refine lv_isub hx hb dX12_feed_97 ?_
  refine lv_topi (fun z107 ez107 => ?_)
  obtain rfl : z107 = 8 := ez107.trans (by decide)
  refine lv_ishr hx hb dX12_feed_98 ?_
  refine lv_topi (fun z108 ez108 => ?_)
  clear ez108
  refine lv_i2b hx hb dX12_feed_99 rfl ?_
  refine lv_topi (fun z109 ez109 => ?_)
  clear ez109
  refine va_bast hx hb hK hP hD hS 1 0 rfl rfl (vp_in_iff.mpr (by omega)) dX12_feed_100 (fun H locs hP hD hS => ?_)
  have hP : va_P (dC, dI) vwCl [(a0, .inr (9, [.int 0, g8, g9, g10, g11, .ref a6, .int z100, g13, g14, g15, g16, g17, g18, g19, g20, g21, g22, g23, g24, g25, g26, g27, g28, g29, g30, g31, g32, g33, g34, g35])), (a6, .inl (cB36, 900, .inl (upd f99 (z100 : Int32).toNatClampNeg (vp_nar .byte z109))))] H := hP
  have hD : va_D A [(a0, .inr (9, [.int 0, g8, g9, g10, g11, .ref a6, .int z100, g13, g14, g15, g16, g17, g18, g19, g20, g21, g22, g23, g24, g25, g26, g27, g28, g29, g30, g31, g32, g33, g34, g35])), (a6, .inl (cB36, 900, .inl (upd f99 (z100 : Int32).toNatClampNeg (vp_nar .byte z109))))] := hD
  generalize upd f99 (z100 : Int32).toNatClampNeg (vp_nar .byte z109) = f110 at hP hD
  refine lv_aload_n hx hb dX12_feed_101 rfl (lv_at hl 2 rfl) ?_
  refine lv_dup hx hb dX12_feed_102 rfl ?_
  refine va_get (D := (dC, dI)) (ci := 9) (v := .int z100) (C := RX12) (T := TX12) (N := 30) hx hb hts iX12_feed_lo_X12 hown hK hP 0 rfl rfl 6 (by decide) (hts (.fieldLink RX12 292 "HookPierModel" "taped" "I") (List.mem_of_getElem? (i := 2) rfl)) (fun _ h9 => h9) rfl dX12_feed_103 ?_
  refine lv_iconst (v := 1) hx hb dX12_feed_106 (by decide) ?_
  refine lv_iadd hx hb dX12_feed_107 ?_
  refine lv_topi (fun z111 ez111 => ?_)
  have tz111 : z111.toInt = z100.toInt + 1 := by rw [ez111]; rw [iadd_t (by first | omega | (simp only [ltv_0, ltv_1]; omega)) (by first | omega | (simp only [ltv_0, ltv_1]; omega))]; first | done | (simp only [ltv_0, ltv_1])
  refine va_put (D := (dC, dI)) (ci := 9) (v := .int z111) (ty := .int) (C := RX12) (T := TX12) (N := 30) hx hb hts iX12_feed_lo_X12 tyX12 tyX12_ok nmX12 hown hK hP hD hS 0 rfl rfl 6 (by decide) (hts (.fieldLink RX12 292 "HookPierModel" "taped" "I") (List.mem_of_getElem? (i := 2) rfl)) (fun _ h9 => h9) rfl (by decide +kernel) rfl rfl (Nat.le_of_ble_eq_true rfl) dX12_feed_108 (fun H locs hP hD hS => ?_)
  have hP : va_P (dC, dI) vwCl [(a0, .inr (9, [.int 0, g8, g9, g10, g11, .ref a6, .int z111, g13, g14, g15, g16, g17, g18, g19, g20, g21, g22, g23, g24, g25, g26, g27, g28, g29, g30, g31, g32, g33, g34, g35])), (a6, .inl (cB36, 900, .inl f110))] H := hP
  have hD : va_D A [(a0, .inr (9, [.int 0, g8, g9, g10, g11, .ref a6, .int z111, g13, g14, g15, g16, g17, g18, g19, g20, g21, g22, g23, g24, g25, g26, g27, g28, g29, g30, g31, g32, g33, g34, g35])), (a6, .inl (cB36, 900, .inl f110))] := hD
  refine lv_iinc (v := 11) (lv' := [(6, .int 11), (7, .int k3), (0, .ref a0), (1, .int k1), (2, .int k2), (3, .int k3), (4, .int k4), (5, .int k5)]) hx hb dX12_feed_111 hl (k := 1) rfl (by decide) (by decide) rfl (fun ls hl => ?_)
  refine lv_goto (tgt := 23) hx hb dX12_feed_114 (by decide) ?_
  refine lv_iload hx hb dX12_feed_23 (lv_at hl 0 rfl) ?_
  refine lv_bipush (v := 20) hx hb dX12_feed_25 (by decide) ?_
  refine lv_icmp_ge (tgt := 117) hx hb dX12_feed_27 (by decide) (fun c112 => absurd c112 (by decide)) (fun _ => ?_)
  refine lv_iload hx hb dX12_feed_30 (lv_at hl 0 rfl) ?_
  refine lv_iconst (v := 4) hx hb dX12_feed_32 (by decide) ?_
  refine lv_icmp_ge (tgt := 40) hx hb dX12_feed_33 (by decide) (fun _ => ?_) (fun c113 => absurd c113 (by decide))
  refine lv_iload hx hb dX12_feed_40 (lv_at hl 0 rfl) ?_
  refine lv_bipush (v := 8) hx hb dX12_feed_42 (by decide) ?_
  refine lv_icmp_ge (tgt := 51) hx hb dX12_feed_44 (by decide) (fun _ => ?_) (fun c114 => absurd c114 (by decide))
  refine lv_iload hx hb dX12_feed_51 (lv_at hl 0 rfl) ?_
  refine lv_bipush (v := 12) hx hb dX12_feed_53 (by decide) ?_
  refine lv_icmp_ge (tgt := 62) hx hb dX12_feed_55 (by decide) (fun c115 => absurd c115 (by decide)) (fun _ => ?_)
  refine lv_iload_n hx hb dX12_feed_58 rfl (lv_at hl 5 rfl) ?_
  refine lv_goto (tgt := 76) hx hb dX12_feed_59 (by decide) ?_
  refine lv_istore (lv' := [(7, .int k3), (6, .int 11), (0, .ref a0), (1, .int k1), (2, .int k2), (3, .int k3), (4, .int k4), (5, .int k5)]) hx hb dX12_feed_76 hl (by decide) rfl (fun ls hl => ?_)
  refine lv_aload_n hx hb dX12_feed_78 rfl (lv_at hl 2 rfl) ?_
  refine va_get (D := (dC, dI)) (ci := 9) (v := .ref a6) (C := RX12) (T := TX12) (N := 30) hx hb hts iX12_feed_lo_X12 hown hK hP 0 rfl rfl 5 (by decide) (hts (.fieldLink RX12 13 "HookPierModel" "tape" "[B") (List.mem_of_getElem? (i := 3) rfl)) (fun _ h9 => h9) rfl dX12_feed_79 ?_
  refine lv_aload_n hx hb dX12_feed_82 rfl (lv_at hl 2 rfl) ?_
  refine va_get (D := (dC, dI)) (ci := 9) (v := .int z111) (C := RX12) (T := TX12) (N := 30) hx hb hts iX12_feed_lo_X12 hown hK hP 0 rfl rfl 6 (by decide) (hts (.fieldLink RX12 292 "HookPierModel" "taped" "I") (List.mem_of_getElem? (i := 2) rfl)) (fun _ h9 => h9) rfl dX12_feed_83 ?_
  refine lv_iload hx hb dX12_feed_86 (lv_at hl 0 rfl) ?_
  refine lv_bipush (v := 24) hx hb dX12_feed_88 (by decide) ?_
  refine lv_bipush (v := 8) hx hb dX12_feed_90 (by decide) ?_
  refine lv_iload hx hb dX12_feed_92 (lv_at hl 1 rfl) ?_
  refine lv_iconst (v := 4) hx hb dX12_feed_94 (by decide) ?_
  refine lv_irem hx hb dX12_feed_95 (by decide) ?_
  refine lv_topi (fun z116 ez116 => ?_)
  obtain rfl : z116 = 3 := ez116.trans (by decide)
  refine lv_imul hx hb dX12_feed_96 ?_
  refine lv_topi (fun z117 ez117 => ?_)
  obtain rfl : z117 = 24 := ez117.trans (by decide)
  refine lv_isub hx hb dX12_feed_97 ?_
  refine lv_topi (fun z118 ez118 => ?_)
  obtain rfl : z118 = 0 := ez118.trans (by decide)
  refine lv_ishr hx hb dX12_feed_98 ?_
  refine lv_topi (fun z119 ez119 => ?_)
  clear ez119
  refine lv_i2b hx hb dX12_feed_99 rfl ?_
  refine lv_topi (fun z120 ez120 => ?_)
  clear ez120
  refine va_bast hx hb hK hP hD hS 1 0 rfl rfl (vp_in_iff.mpr (by omega)) dX12_feed_100 (fun H locs hP hD hS => ?_)
  have hP : va_P (dC, dI) vwCl [(a0, .inr (9, [.int 0, g8, g9, g10, g11, .ref a6, .int z111, g13, g14, g15, g16, g17, g18, g19, g20, g21, g22, g23, g24, g25, g26, g27, g28, g29, g30, g31, g32, g33, g34, g35])), (a6, .inl (cB36, 900, .inl (upd f110 (z111 : Int32).toNatClampNeg (vp_nar .byte z120))))] H := hP
  have hD : va_D A [(a0, .inr (9, [.int 0, g8, g9, g10, g11, .ref a6, .int z111, g13, g14, g15, g16, g17, g18, g19, g20, g21, g22, g23, g24, g25, g26, g27, g28, g29, g30, g31, g32, g33, g34, g35])), (a6, .inl (cB36, 900, .inl (upd f110 (z111 : Int32).toNatClampNeg (vp_nar .byte z120))))] := hD
  generalize upd f110 (z111 : Int32).toNatClampNeg (vp_nar .byte z120) = f121 at hP hD
  refine lv_aload_n hx hb dX12_feed_101 rfl (lv_at hl 2 rfl) ?_
  refine lv_dup hx hb dX12_feed_102 rfl ?_
  refine va_get (D := (dC, dI)) (ci := 9) (v := .int z111) (C := RX12) (T := TX12) (N := 30) hx hb hts iX12_feed_lo_X12 hown hK hP 0 rfl rfl 6 (by decide) (hts (.fieldLink RX12 292 "HookPierModel" "taped" "I") (List.mem_of_getElem? (i := 2) rfl)) (fun _ h9 => h9) rfl dX12_feed_103 ?_
  refine lv_iconst (v := 1) hx hb dX12_feed_106 (by decide) ?_
  refine lv_iadd hx hb dX12_feed_107 ?_
  refine lv_topi (fun z122 ez122 => ?_)
  have tz122 : z122.toInt = z111.toInt + 1 := by rw [ez122]; rw [iadd_t (by first | omega | (simp only [ltv_0, ltv_1]; omega)) (by first | omega | (simp only [ltv_0, ltv_1]; omega))]; first | done | (simp only [ltv_0, ltv_1])
  refine va_put (D := (dC, dI)) (ci := 9) (v := .int z122) (ty := .int) (C := RX12) (T := TX12) (N := 30) hx hb hts iX12_feed_lo_X12 tyX12 tyX12_ok nmX12 hown hK hP hD hS 0 rfl rfl 6 (by decide) (hts (.fieldLink RX12 292 "HookPierModel" "taped" "I") (List.mem_of_getElem? (i := 2) rfl)) (fun _ h9 => h9) rfl (by decide +kernel) rfl rfl (Nat.le_of_ble_eq_true rfl) dX12_feed_108 (fun H locs hP hD hS => ?_)
  have hP : va_P (dC, dI) vwCl [(a0, .inr (9, [.int 0, g8, g9, g10, g11, .ref a6, .int z122, g13, g14, g15, g16, g17, g18, g19, g20, g21, g22, g23, g24, g25, g26, g27, g28, g29, g30, g31, g32, g33, g34, g35])), (a6, .inl (cB36, 900, .inl f121))] H := hP
  have hD : va_D A [(a0, .inr (9, [.int 0, g8, g9, g10, g11, .ref a6, .int z122, g13, g14, g15, g16, g17, g18, g19, g20, g21, g22, g23, g24, g25, g26, g27, g28, g29, g30, g31, g32, g33, g34, g35])), (a6, .inl (cB36, 900, .inl f121))] := hD
  refine lv_iinc (v := 12) (lv' := [(6, .int 12), (7, .int k3), (0, .ref a0), (1, .int k1), (2, .int k2), (3, .int k3), (4, .int k4), (5, .int k5)]) hx hb dX12_feed_111 hl (k := 1) rfl (by decide) (by decide) rfl (fun ls hl => ?_)
  refine lv_goto (tgt := 23) hx hb dX12_feed_114 (by decide) ?_
  refine lv_iload hx hb dX12_feed_23 (lv_at hl 0 rfl) ?_
  refine lv_bipush (v := 20) hx hb dX12_feed_25 (by decide) ?_
  refine lv_icmp_ge (tgt := 117) hx hb dX12_feed_27 (by decide) (fun c123 => absurd c123 (by decide)) (fun _ => ?_)
  refine lv_iload hx hb dX12_feed_30 (lv_at hl 0 rfl) ?_
  refine lv_iconst (v := 4) hx hb dX12_feed_32 (by decide) ?_
  refine lv_icmp_ge (tgt := 40) hx hb dX12_feed_33 (by decide) (fun _ => ?_) (fun c124 => absurd c124 (by decide))
  refine lv_iload hx hb dX12_feed_40 (lv_at hl 0 rfl) ?_
  refine lv_bipush (v := 8) hx hb dX12_feed_42 (by decide) ?_
  refine lv_icmp_ge (tgt := 51) hx hb dX12_feed_44 (by decide) (fun _ => ?_) (fun c125 => absurd c125 (by decide))
  refine lv_iload hx hb dX12_feed_51 (lv_at hl 0 rfl) ?_
  refine lv_bipush (v := 12) hx hb dX12_feed_53 (by decide) ?_
  refine lv_icmp_ge (tgt := 62) hx hb dX12_feed_55 (by decide) (fun _ => ?_) (fun c126 => absurd c126 (by decide))
  refine lv_iload hx hb dX12_feed_62 (lv_at hl 0 rfl) ?_
  refine lv_bipush (v := 16) hx hb dX12_feed_64 (by decide) ?_
  refine lv_icmp_ge (tgt := 74) hx hb dX12_feed_66 (by decide) (fun c127 => absurd c127 (by decide)) (fun _ => ?_)
  refine lv_iload hx hb dX12_feed_69 (lv_at hl 6 rfl) ?_
  refine lv_goto (tgt := 76) hx hb dX12_feed_71 (by decide) ?_
  refine lv_istore (lv' := [(7, .int k4), (6, .int 12), (0, .ref a0), (1, .int k1), (2, .int k2), (3, .int k3), (4, .int k4), (5, .int k5)]) hx hb dX12_feed_76 hl (by decide) rfl (fun ls hl => ?_)
  refine lv_aload_n hx hb dX12_feed_78 rfl (lv_at hl 2 rfl) ?_
  refine va_get (D := (dC, dI)) (ci := 9) (v := .ref a6) (C := RX12) (T := TX12) (N := 30) hx hb hts iX12_feed_lo_X12 hown hK hP 0 rfl rfl 5 (by decide) (hts (.fieldLink RX12 13 "HookPierModel" "tape" "[B") (List.mem_of_getElem? (i := 3) rfl)) (fun _ h9 => h9) rfl dX12_feed_79 ?_
  refine lv_aload_n hx hb dX12_feed_82 rfl (lv_at hl 2 rfl) ?_
  refine va_get (D := (dC, dI)) (ci := 9) (v := .int z122) (C := RX12) (T := TX12) (N := 30) hx hb hts iX12_feed_lo_X12 hown hK hP 0 rfl rfl 6 (by decide) (hts (.fieldLink RX12 292 "HookPierModel" "taped" "I") (List.mem_of_getElem? (i := 2) rfl)) (fun _ h9 => h9) rfl dX12_feed_83 ?_
  refine lv_iload hx hb dX12_feed_86 (lv_at hl 0 rfl) ?_
  refine lv_bipush (v := 24) hx hb dX12_feed_88 (by decide) ?_
  refine lv_bipush (v := 8) hx hb dX12_feed_90 (by decide) ?_
  refine lv_iload hx hb dX12_feed_92 (lv_at hl 1 rfl) ?_
  refine lv_iconst (v := 4) hx hb dX12_feed_94 (by decide) ?_
  refine lv_irem hx hb dX12_feed_95 (by decide) ?_
  refine lv_topi (fun z128 ez128 => ?_)
  obtain rfl : z128 = 0 := ez128.trans (by decide)
  refine lv_imul hx hb dX12_feed_96 ?_
  refine lv_topi (fun z129 ez129 => ?_)
  obtain rfl : z129 = 0 := ez129.trans (by decide)
  refine lv_isub hx hb dX12_feed_97 ?_
  refine lv_topi (fun z130 ez130 => ?_)
  obtain rfl : z130 = 24 := ez130.trans (by decide)
  refine lv_ishr hx hb dX12_feed_98 ?_
  refine lv_topi (fun z131 ez131 => ?_)
  clear ez131
  refine lv_i2b hx hb dX12_feed_99 rfl ?_
  refine lv_topi (fun z132 ez132 => ?_)
  clear ez132
  refine va_bast hx hb hK hP hD hS 1 0 rfl rfl (vp_in_iff.mpr (by omega)) dX12_feed_100 (fun H locs hP hD hS => ?_)
  have hP : va_P (dC, dI) vwCl [(a0, .inr (9, [.int 0, g8, g9, g10, g11, .ref a6, .int z122, g13, g14, g15, g16, g17, g18, g19, g20, g21, g22, g23, g24, g25, g26, g27, g28, g29, g30, g31, g32, g33, g34, g35])), (a6, .inl (cB36, 900, .inl (upd f121 (z122 : Int32).toNatClampNeg (vp_nar .byte z132))))] H := hP
  have hD : va_D A [(a0, .inr (9, [.int 0, g8, g9, g10, g11, .ref a6, .int z122, g13, g14, g15, g16, g17, g18, g19, g20, g21, g22, g23, g24, g25, g26, g27, g28, g29, g30, g31, g32, g33, g34, g35])), (a6, .inl (cB36, 900, .inl (upd f121 (z122 : Int32).toNatClampNeg (vp_nar .byte z132))))] := hD
  generalize upd f121 (z122 : Int32).toNatClampNeg (vp_nar .byte z132) = f133 at hP hD
  refine lv_aload_n hx hb dX12_feed_101 rfl (lv_at hl 2 rfl) ?_
  refine lv_dup hx hb dX12_feed_102 rfl ?_
  refine va_get (D := (dC, dI)) (ci := 9) (v := .int z122) (C := RX12) (T := TX12) (N := 30) hx hb hts iX12_feed_lo_X12 hown hK hP 0 rfl rfl 6 (by decide) (hts (.fieldLink RX12 292 "HookPierModel" "taped" "I") (List.mem_of_getElem? (i := 2) rfl)) (fun _ h9 => h9) rfl dX12_feed_103 ?_
  refine lv_iconst (v := 1) hx hb dX12_feed_106 (by decide) ?_
  refine lv_iadd hx hb dX12_feed_107 ?_
  refine lv_topi (fun z134 ez134 => ?_)
  have tz134 : z134.toInt = z122.toInt + 1 := by rw [ez134]; rw [iadd_t (by first | omega | (simp only [ltv_0, ltv_1]; omega)) (by first | omega | (simp only [ltv_0, ltv_1]; omega))]; first | done | (simp only [ltv_0, ltv_1])
  refine va_put (D := (dC, dI)) (ci := 9) (v := .int z134) (ty := .int) (C := RX12) (T := TX12) (N := 30) hx hb hts iX12_feed_lo_X12 tyX12 tyX12_ok nmX12 hown hK hP hD hS 0 rfl rfl 6 (by decide) (hts (.fieldLink RX12 292 "HookPierModel" "taped" "I") (List.mem_of_getElem? (i := 2) rfl)) (fun _ h9 => h9) rfl (by decide +kernel) rfl rfl (Nat.le_of_ble_eq_true rfl) dX12_feed_108 (fun H locs hP hD hS => ?_)
  have hP : va_P (dC, dI) vwCl [(a0, .inr (9, [.int 0, g8, g9, g10, g11, .ref a6, .int z134, g13, g14, g15, g16, g17, g18, g19, g20, g21, g22, g23, g24, g25, g26, g27, g28, g29, g30, g31, g32, g33, g34, g35])), (a6, .inl (cB36, 900, .inl f133))] H := hP
  have hD : va_D A [(a0, .inr (9, [.int 0, g8, g9, g10, g11, .ref a6, .int z134, g13, g14, g15, g16, g17, g18, g19, g20, g21, g22, g23, g24, g25, g26, g27, g28, g29, g30, g31, g32, g33, g34, g35])), (a6, .inl (cB36, 900, .inl f133))] := hD
  refine lv_iinc (v := 13) (lv' := [(6, .int 13), (7, .int k4), (0, .ref a0), (1, .int k1), (2, .int k2), (3, .int k3), (4, .int k4), (5, .int k5)]) hx hb dX12_feed_111 hl (k := 1) rfl (by decide) (by decide) rfl (fun ls hl => ?_)
  refine lv_goto (tgt := 23) hx hb dX12_feed_114 (by decide) ?_
  refine lv_iload hx hb dX12_feed_23 (lv_at hl 0 rfl) ?_
  refine lv_bipush (v := 20) hx hb dX12_feed_25 (by decide) ?_
  refine lv_icmp_ge (tgt := 117) hx hb dX12_feed_27 (by decide) (fun c135 => absurd c135 (by decide)) (fun _ => ?_)
  refine lv_iload hx hb dX12_feed_30 (lv_at hl 0 rfl) ?_
  refine lv_iconst (v := 4) hx hb dX12_feed_32 (by decide) ?_
  refine lv_icmp_ge (tgt := 40) hx hb dX12_feed_33 (by decide) (fun _ => ?_) (fun c136 => absurd c136 (by decide))
  refine lv_iload hx hb dX12_feed_40 (lv_at hl 0 rfl) ?_
  refine lv_bipush (v := 8) hx hb dX12_feed_42 (by decide) ?_
  refine lv_icmp_ge (tgt := 51) hx hb dX12_feed_44 (by decide) (fun _ => ?_) (fun c137 => absurd c137 (by decide))
  refine lv_iload hx hb dX12_feed_51 (lv_at hl 0 rfl) ?_
  refine lv_bipush (v := 12) hx hb dX12_feed_53 (by decide) ?_
  refine lv_icmp_ge (tgt := 62) hx hb dX12_feed_55 (by decide) (fun _ => ?_) (fun c138 => absurd c138 (by decide))
  refine lv_iload hx hb dX12_feed_62 (lv_at hl 0 rfl) ?_
  refine lv_bipush (v := 16) hx hb dX12_feed_64 (by decide) ?_
  refine lv_icmp_ge (tgt := 74) hx hb dX12_feed_66 (by decide) (fun c139 => absurd c139 (by decide)) (fun _ => ?_)
  refine lv_iload hx hb dX12_feed_69 (lv_at hl 6 rfl) ?_
  refine lv_goto (tgt := 76) hx hb dX12_feed_71 (by decide) ?_
  refine lv_istore (lv' := [(7, .int k4), (6, .int 13), (0, .ref a0), (1, .int k1), (2, .int k2), (3, .int k3), (4, .int k4), (5, .int k5)]) hx hb dX12_feed_76 hl (by decide) rfl (fun ls hl => ?_)
  refine lv_aload_n hx hb dX12_feed_78 rfl (lv_at hl 2 rfl) ?_
  refine va_get (D := (dC, dI)) (ci := 9) (v := .ref a6) (C := RX12) (T := TX12) (N := 30) hx hb hts iX12_feed_lo_X12 hown hK hP 0 rfl rfl 5 (by decide) (hts (.fieldLink RX12 13 "HookPierModel" "tape" "[B") (List.mem_of_getElem? (i := 3) rfl)) (fun _ h9 => h9) rfl dX12_feed_79 ?_
  refine lv_aload_n hx hb dX12_feed_82 rfl (lv_at hl 2 rfl) ?_
  refine va_get (D := (dC, dI)) (ci := 9) (v := .int z134) (C := RX12) (T := TX12) (N := 30) hx hb hts iX12_feed_lo_X12 hown hK hP 0 rfl rfl 6 (by decide) (hts (.fieldLink RX12 292 "HookPierModel" "taped" "I") (List.mem_of_getElem? (i := 2) rfl)) (fun _ h9 => h9) rfl dX12_feed_83 ?_
  refine lv_iload hx hb dX12_feed_86 (lv_at hl 0 rfl) ?_
  refine lv_bipush (v := 24) hx hb dX12_feed_88 (by decide) ?_
  refine lv_bipush (v := 8) hx hb dX12_feed_90 (by decide) ?_
  refine lv_iload hx hb dX12_feed_92 (lv_at hl 1 rfl) ?_
  refine lv_iconst (v := 4) hx hb dX12_feed_94 (by decide) ?_
  refine lv_irem hx hb dX12_feed_95 (by decide) ?_
  refine lv_topi (fun z140 ez140 => ?_)
  obtain rfl : z140 = 1 := ez140.trans (by decide)
  refine lv_imul hx hb dX12_feed_96 ?_
  refine lv_topi (fun z141 ez141 => ?_)
  obtain rfl : z141 = 8 := ez141.trans (by decide)
  refine lv_isub hx hb dX12_feed_97 ?_
  refine lv_topi (fun z142 ez142 => ?_)
  obtain rfl : z142 = 16 := ez142.trans (by decide)
  refine lv_ishr hx hb dX12_feed_98 ?_
  refine lv_topi (fun z143 ez143 => ?_)
  clear ez143
  refine lv_i2b hx hb dX12_feed_99 rfl ?_
  refine lv_topi (fun z144 ez144 => ?_)
  clear ez144
  refine va_bast hx hb hK hP hD hS 1 0 rfl rfl (vp_in_iff.mpr (by omega)) dX12_feed_100 (fun H locs hP hD hS => ?_)
  have hP : va_P (dC, dI) vwCl [(a0, .inr (9, [.int 0, g8, g9, g10, g11, .ref a6, .int z134, g13, g14, g15, g16, g17, g18, g19, g20, g21, g22, g23, g24, g25, g26, g27, g28, g29, g30, g31, g32, g33, g34, g35])), (a6, .inl (cB36, 900, .inl (upd f133 (z134 : Int32).toNatClampNeg (vp_nar .byte z144))))] H := hP
  have hD : va_D A [(a0, .inr (9, [.int 0, g8, g9, g10, g11, .ref a6, .int z134, g13, g14, g15, g16, g17, g18, g19, g20, g21, g22, g23, g24, g25, g26, g27, g28, g29, g30, g31, g32, g33, g34, g35])), (a6, .inl (cB36, 900, .inl (upd f133 (z134 : Int32).toNatClampNeg (vp_nar .byte z144))))] := hD
  generalize upd f133 (z134 : Int32).toNatClampNeg (vp_nar .byte z144) = f145 at hP hD
  refine lv_aload_n hx hb dX12_feed_101 rfl (lv_at hl 2 rfl) ?_
  refine lv_dup hx hb dX12_feed_102 rfl ?_
  refine va_get (D := (dC, dI)) (ci := 9) (v := .int z134) (C := RX12) (T := TX12) (N := 30) hx hb hts iX12_feed_lo_X12 hown hK hP 0 rfl rfl 6 (by decide) (hts (.fieldLink RX12 292 "HookPierModel" "taped" "I") (List.mem_of_getElem? (i := 2) rfl)) (fun _ h9 => h9) rfl dX12_feed_103 ?_
  refine lv_iconst (v := 1) hx hb dX12_feed_106 (by decide) ?_
  refine lv_iadd hx hb dX12_feed_107 ?_
  refine lv_topi (fun z146 ez146 => ?_)
  have tz146 : z146.toInt = z134.toInt + 1 := by rw [ez146]; rw [iadd_t (by first | omega | (simp only [ltv_0, ltv_1]; omega)) (by first | omega | (simp only [ltv_0, ltv_1]; omega))]; first | done | (simp only [ltv_0, ltv_1])
  refine va_put (D := (dC, dI)) (ci := 9) (v := .int z146) (ty := .int) (C := RX12) (T := TX12) (N := 30) hx hb hts iX12_feed_lo_X12 tyX12 tyX12_ok nmX12 hown hK hP hD hS 0 rfl rfl 6 (by decide) (hts (.fieldLink RX12 292 "HookPierModel" "taped" "I") (List.mem_of_getElem? (i := 2) rfl)) (fun _ h9 => h9) rfl (by decide +kernel) rfl rfl (Nat.le_of_ble_eq_true rfl) dX12_feed_108 (fun H locs hP hD hS => ?_)
  have hP : va_P (dC, dI) vwCl [(a0, .inr (9, [.int 0, g8, g9, g10, g11, .ref a6, .int z146, g13, g14, g15, g16, g17, g18, g19, g20, g21, g22, g23, g24, g25, g26, g27, g28, g29, g30, g31, g32, g33, g34, g35])), (a6, .inl (cB36, 900, .inl f145))] H := hP
  have hD : va_D A [(a0, .inr (9, [.int 0, g8, g9, g10, g11, .ref a6, .int z146, g13, g14, g15, g16, g17, g18, g19, g20, g21, g22, g23, g24, g25, g26, g27, g28, g29, g30, g31, g32, g33, g34, g35])), (a6, .inl (cB36, 900, .inl f145))] := hD
  refine lv_iinc (v := 14) (lv' := [(6, .int 14), (7, .int k4), (0, .ref a0), (1, .int k1), (2, .int k2), (3, .int k3), (4, .int k4), (5, .int k5)]) hx hb dX12_feed_111 hl (k := 1) rfl (by decide) (by decide) rfl (fun ls hl => ?_)
  refine lv_goto (tgt := 23) hx hb dX12_feed_114 (by decide) ?_
  refine lv_iload hx hb dX12_feed_23 (lv_at hl 0 rfl) ?_
  refine lv_bipush (v := 20) hx hb dX12_feed_25 (by decide) ?_
  refine lv_icmp_ge (tgt := 117) hx hb dX12_feed_27 (by decide) (fun c147 => absurd c147 (by decide)) (fun _ => ?_)
  refine lv_iload hx hb dX12_feed_30 (lv_at hl 0 rfl) ?_
  refine lv_iconst (v := 4) hx hb dX12_feed_32 (by decide) ?_
  refine lv_icmp_ge (tgt := 40) hx hb dX12_feed_33 (by decide) (fun _ => ?_) (fun c148 => absurd c148 (by decide))
  refine lv_iload hx hb dX12_feed_40 (lv_at hl 0 rfl) ?_
  refine lv_bipush (v := 8) hx hb dX12_feed_42 (by decide) ?_
  refine lv_icmp_ge (tgt := 51) hx hb dX12_feed_44 (by decide) (fun _ => ?_) (fun c149 => absurd c149 (by decide))
  refine lv_iload hx hb dX12_feed_51 (lv_at hl 0 rfl) ?_
  refine lv_bipush (v := 12) hx hb dX12_feed_53 (by decide) ?_
  refine lv_icmp_ge (tgt := 62) hx hb dX12_feed_55 (by decide) (fun _ => ?_) (fun c150 => absurd c150 (by decide))
  refine lv_iload hx hb dX12_feed_62 (lv_at hl 0 rfl) ?_
  refine lv_bipush (v := 16) hx hb dX12_feed_64 (by decide) ?_
  refine lv_icmp_ge (tgt := 74) hx hb dX12_feed_66 (by decide) (fun c151 => absurd c151 (by decide)) (fun _ => ?_)
  refine lv_iload hx hb dX12_feed_69 (lv_at hl 6 rfl) ?_
  refine lv_goto (tgt := 76) hx hb dX12_feed_71 (by decide) ?_
  refine lv_istore (lv' := [(7, .int k4), (6, .int 14), (0, .ref a0), (1, .int k1), (2, .int k2), (3, .int k3), (4, .int k4), (5, .int k5)]) hx hb dX12_feed_76 hl (by decide) rfl (fun ls hl => ?_)
  refine lv_aload_n hx hb dX12_feed_78 rfl (lv_at hl 2 rfl) ?_
  refine va_get (D := (dC, dI)) (ci := 9) (v := .ref a6) (C := RX12) (T := TX12) (N := 30) hx hb hts iX12_feed_lo_X12 hown hK hP 0 rfl rfl 5 (by decide) (hts (.fieldLink RX12 13 "HookPierModel" "tape" "[B") (List.mem_of_getElem? (i := 3) rfl)) (fun _ h9 => h9) rfl dX12_feed_79 ?_
  refine lv_aload_n hx hb dX12_feed_82 rfl (lv_at hl 2 rfl) ?_
  refine va_get (D := (dC, dI)) (ci := 9) (v := .int z146) (C := RX12) (T := TX12) (N := 30) hx hb hts iX12_feed_lo_X12 hown hK hP 0 rfl rfl 6 (by decide) (hts (.fieldLink RX12 292 "HookPierModel" "taped" "I") (List.mem_of_getElem? (i := 2) rfl)) (fun _ h9 => h9) rfl dX12_feed_83 ?_
  refine lv_iload hx hb dX12_feed_86 (lv_at hl 0 rfl) ?_
  refine lv_bipush (v := 24) hx hb dX12_feed_88 (by decide) ?_
  refine lv_bipush (v := 8) hx hb dX12_feed_90 (by decide) ?_
  refine lv_iload hx hb dX12_feed_92 (lv_at hl 1 rfl) ?_
  refine lv_iconst (v := 4) hx hb dX12_feed_94 (by decide) ?_
  refine lv_irem hx hb dX12_feed_95 (by decide) ?_
  refine lv_topi (fun z152 ez152 => ?_)
  obtain rfl : z152 = 2 := ez152.trans (by decide)
  refine lv_imul hx hb dX12_feed_96 ?_
  refine lv_topi (fun z153 ez153 => ?_)
  obtain rfl : z153 = 16 := ez153.trans (by decide)
  refine lv_isub hx hb dX12_feed_97 ?_
  refine lv_topi (fun z154 ez154 => ?_)
  obtain rfl : z154 = 8 := ez154.trans (by decide)
  refine lv_ishr hx hb dX12_feed_98 ?_
  refine lv_topi (fun z155 ez155 => ?_)
  clear ez155
  refine lv_i2b hx hb dX12_feed_99 rfl ?_
  refine lv_topi (fun z156 ez156 => ?_)
  clear ez156
  refine va_bast hx hb hK hP hD hS 1 0 rfl rfl (vp_in_iff.mpr (by omega)) dX12_feed_100 (fun H locs hP hD hS => ?_)
  have hP : va_P (dC, dI) vwCl [(a0, .inr (9, [.int 0, g8, g9, g10, g11, .ref a6, .int z146, g13, g14, g15, g16, g17, g18, g19, g20, g21, g22, g23, g24, g25, g26, g27, g28, g29, g30, g31, g32, g33, g34, g35])), (a6, .inl (cB36, 900, .inl (upd f145 (z146 : Int32).toNatClampNeg (vp_nar .byte z156))))] H := hP
  have hD : va_D A [(a0, .inr (9, [.int 0, g8, g9, g10, g11, .ref a6, .int z146, g13, g14, g15, g16, g17, g18, g19, g20, g21, g22, g23, g24, g25, g26, g27, g28, g29, g30, g31, g32, g33, g34, g35])), (a6, .inl (cB36, 900, .inl (upd f145 (z146 : Int32).toNatClampNeg (vp_nar .byte z156))))] := hD
  generalize upd f145 (z146 : Int32).toNatClampNeg (vp_nar .byte z156) = f157 at hP hD
  refine lv_aload_n hx hb dX12_feed_101 rfl (lv_at hl 2 rfl) ?_
  refine lv_dup hx hb dX12_feed_102 rfl ?_
  refine va_get (D := (dC, dI)) (ci := 9) (v := .int z146) (C := RX12) (T := TX12) (N := 30) hx hb hts iX12_feed_lo_X12 hown hK hP 0 rfl rfl 6 (by decide) (hts (.fieldLink RX12 292 "HookPierModel" "taped" "I") (List.mem_of_getElem? (i := 2) rfl)) (fun _ h9 => h9) rfl dX12_feed_103 ?_
  refine lv_iconst (v := 1) hx hb dX12_feed_106 (by decide) ?_
  refine lv_iadd hx hb dX12_feed_107 ?_
  refine lv_topi (fun z158 ez158 => ?_)
  have tz158 : z158.toInt = z146.toInt + 1 := by rw [ez158]; rw [iadd_t (by first | omega | (simp only [ltv_0, ltv_1]; omega)) (by first | omega | (simp only [ltv_0, ltv_1]; omega))]; first | done | (simp only [ltv_0, ltv_1])
  refine va_put (D := (dC, dI)) (ci := 9) (v := .int z158) (ty := .int) (C := RX12) (T := TX12) (N := 30) hx hb hts iX12_feed_lo_X12 tyX12 tyX12_ok nmX12 hown hK hP hD hS 0 rfl rfl 6 (by decide) (hts (.fieldLink RX12 292 "HookPierModel" "taped" "I") (List.mem_of_getElem? (i := 2) rfl)) (fun _ h9 => h9) rfl (by decide +kernel) rfl rfl (Nat.le_of_ble_eq_true rfl) dX12_feed_108 (fun H locs hP hD hS => ?_)
  have hP : va_P (dC, dI) vwCl [(a0, .inr (9, [.int 0, g8, g9, g10, g11, .ref a6, .int z158, g13, g14, g15, g16, g17, g18, g19, g20, g21, g22, g23, g24, g25, g26, g27, g28, g29, g30, g31, g32, g33, g34, g35])), (a6, .inl (cB36, 900, .inl f157))] H := hP
  have hD : va_D A [(a0, .inr (9, [.int 0, g8, g9, g10, g11, .ref a6, .int z158, g13, g14, g15, g16, g17, g18, g19, g20, g21, g22, g23, g24, g25, g26, g27, g28, g29, g30, g31, g32, g33, g34, g35])), (a6, .inl (cB36, 900, .inl f157))] := hD
  refine lv_iinc (v := 15) (lv' := [(6, .int 15), (7, .int k4), (0, .ref a0), (1, .int k1), (2, .int k2), (3, .int k3), (4, .int k4), (5, .int k5)]) hx hb dX12_feed_111 hl (k := 1) rfl (by decide) (by decide) rfl (fun ls hl => ?_)
  refine lv_goto (tgt := 23) hx hb dX12_feed_114 (by decide) ?_
  refine lv_iload hx hb dX12_feed_23 (lv_at hl 0 rfl) ?_
  refine lv_bipush (v := 20) hx hb dX12_feed_25 (by decide) ?_
  refine lv_icmp_ge (tgt := 117) hx hb dX12_feed_27 (by decide) (fun c159 => absurd c159 (by decide)) (fun _ => ?_)
  refine lv_iload hx hb dX12_feed_30 (lv_at hl 0 rfl) ?_
  refine lv_iconst (v := 4) hx hb dX12_feed_32 (by decide) ?_
  refine lv_icmp_ge (tgt := 40) hx hb dX12_feed_33 (by decide) (fun _ => ?_) (fun c160 => absurd c160 (by decide))
  refine lv_iload hx hb dX12_feed_40 (lv_at hl 0 rfl) ?_
  refine lv_bipush (v := 8) hx hb dX12_feed_42 (by decide) ?_
  refine lv_icmp_ge (tgt := 51) hx hb dX12_feed_44 (by decide) (fun _ => ?_) (fun c161 => absurd c161 (by decide))
  refine lv_iload hx hb dX12_feed_51 (lv_at hl 0 rfl) ?_
  refine lv_bipush (v := 12) hx hb dX12_feed_53 (by decide) ?_
  refine lv_icmp_ge (tgt := 62) hx hb dX12_feed_55 (by decide) (fun _ => ?_) (fun c162 => absurd c162 (by decide))
  refine lv_iload hx hb dX12_feed_62 (lv_at hl 0 rfl) ?_
  refine lv_bipush (v := 16) hx hb dX12_feed_64 (by decide) ?_
  refine lv_icmp_ge (tgt := 74) hx hb dX12_feed_66 (by decide) (fun c163 => absurd c163 (by decide)) (fun _ => ?_)
  refine lv_iload hx hb dX12_feed_69 (lv_at hl 6 rfl) ?_
  refine lv_goto (tgt := 76) hx hb dX12_feed_71 (by decide) ?_
  refine lv_istore (lv' := [(7, .int k4), (6, .int 15), (0, .ref a0), (1, .int k1), (2, .int k2), (3, .int k3), (4, .int k4), (5, .int k5)]) hx hb dX12_feed_76 hl (by decide) rfl (fun ls hl => ?_)
  refine lv_aload_n hx hb dX12_feed_78 rfl (lv_at hl 2 rfl) ?_
  refine va_get (D := (dC, dI)) (ci := 9) (v := .ref a6) (C := RX12) (T := TX12) (N := 30) hx hb hts iX12_feed_lo_X12 hown hK hP 0 rfl rfl 5 (by decide) (hts (.fieldLink RX12 13 "HookPierModel" "tape" "[B") (List.mem_of_getElem? (i := 3) rfl)) (fun _ h9 => h9) rfl dX12_feed_79 ?_
  refine lv_aload_n hx hb dX12_feed_82 rfl (lv_at hl 2 rfl) ?_
  refine va_get (D := (dC, dI)) (ci := 9) (v := .int z158) (C := RX12) (T := TX12) (N := 30) hx hb hts iX12_feed_lo_X12 hown hK hP 0 rfl rfl 6 (by decide) (hts (.fieldLink RX12 292 "HookPierModel" "taped" "I") (List.mem_of_getElem? (i := 2) rfl)) (fun _ h9 => h9) rfl dX12_feed_83 ?_
  refine lv_iload hx hb dX12_feed_86 (lv_at hl 0 rfl) ?_
  refine lv_bipush (v := 24) hx hb dX12_feed_88 (by decide) ?_
  refine lv_bipush (v := 8) hx hb dX12_feed_90 (by decide) ?_
  refine lv_iload hx hb dX12_feed_92 (lv_at hl 1 rfl) ?_
  refine lv_iconst (v := 4) hx hb dX12_feed_94 (by decide) ?_
  refine lv_irem hx hb dX12_feed_95 (by decide) ?_
  refine lv_topi (fun z164 ez164 => ?_)
  obtain rfl : z164 = 3 := ez164.trans (by decide)
  refine lv_imul hx hb dX12_feed_96 ?_
  refine lv_topi (fun z165 ez165 => ?_)
  obtain rfl : z165 = 24 := ez165.trans (by decide)
  refine lv_isub hx hb dX12_feed_97 ?_
  refine lv_topi (fun z166 ez166 => ?_)
  obtain rfl : z166 = 0 := ez166.trans (by decide)
  refine lv_ishr hx hb dX12_feed_98 ?_
  refine lv_topi (fun z167 ez167 => ?_)
  clear ez167
  refine lv_i2b hx hb dX12_feed_99 rfl ?_
  refine lv_topi (fun z168 ez168 => ?_)
  clear ez168
  refine va_bast hx hb hK hP hD hS 1 0 rfl rfl (vp_in_iff.mpr (by omega)) dX12_feed_100 (fun H locs hP hD hS => ?_)
  have hP : va_P (dC, dI) vwCl [(a0, .inr (9, [.int 0, g8, g9, g10, g11, .ref a6, .int z158, g13, g14, g15, g16, g17, g18, g19, g20, g21, g22, g23, g24, g25, g26, g27, g28, g29, g30, g31, g32, g33, g34, g35])), (a6, .inl (cB36, 900, .inl (upd f157 (z158 : Int32).toNatClampNeg (vp_nar .byte z168))))] H := hP
  have hD : va_D A [(a0, .inr (9, [.int 0, g8, g9, g10, g11, .ref a6, .int z158, g13, g14, g15, g16, g17, g18, g19, g20, g21, g22, g23, g24, g25, g26, g27, g28, g29, g30, g31, g32, g33, g34, g35])), (a6, .inl (cB36, 900, .inl (upd f157 (z158 : Int32).toNatClampNeg (vp_nar .byte z168))))] := hD
  generalize upd f157 (z158 : Int32).toNatClampNeg (vp_nar .byte z168) = f169 at hP hD
  refine lv_aload_n hx hb dX12_feed_101 rfl (lv_at hl 2 rfl) ?_
  refine lv_dup hx hb dX12_feed_102 rfl ?_
  refine va_get (D := (dC, dI)) (ci := 9) (v := .int z158) (C := RX12) (T := TX12) (N := 30) hx hb hts iX12_feed_lo_X12 hown hK hP 0 rfl rfl 6 (by decide) (hts (.fieldLink RX12 292 "HookPierModel" "taped" "I") (List.mem_of_getElem? (i := 2) rfl)) (fun _ h9 => h9) rfl dX12_feed_103 ?_
  refine lv_iconst (v := 1) hx hb dX12_feed_106 (by decide) ?_
  refine lv_iadd hx hb dX12_feed_107 ?_
  refine lv_topi (fun z170 ez170 => ?_)
  have tz170 : z170.toInt = z158.toInt + 1 := by rw [ez170]; rw [iadd_t (by first | omega | (simp only [ltv_0, ltv_1]; omega)) (by first | omega | (simp only [ltv_0, ltv_1]; omega))]; first | done | (simp only [ltv_0, ltv_1])
  refine va_put (D := (dC, dI)) (ci := 9) (v := .int z170) (ty := .int) (C := RX12) (T := TX12) (N := 30) hx hb hts iX12_feed_lo_X12 tyX12 tyX12_ok nmX12 hown hK hP hD hS 0 rfl rfl 6 (by decide) (hts (.fieldLink RX12 292 "HookPierModel" "taped" "I") (List.mem_of_getElem? (i := 2) rfl)) (fun _ h9 => h9) rfl (by decide +kernel) rfl rfl (Nat.le_of_ble_eq_true rfl) dX12_feed_108 (fun H locs hP hD hS => ?_)
  have hP : va_P (dC, dI) vwCl [(a0, .inr (9, [.int 0, g8, g9, g10, g11, .ref a6, .int z170, g13, g14, g15, g16, g17, g18, g19, g20, g21, g22, g23, g24, g25, g26, g27, g28, g29, g30, g31, g32, g33, g34, g35])), (a6, .inl (cB36, 900, .inl f169))] H := hP
  have hD : va_D A [(a0, .inr (9, [.int 0, g8, g9, g10, g11, .ref a6, .int z170, g13, g14, g15, g16, g17, g18, g19, g20, g21, g22, g23, g24, g25, g26, g27, g28, g29, g30, g31, g32, g33, g34, g35])), (a6, .inl (cB36, 900, .inl f169))] := hD
  refine lv_iinc (v := 16) (lv' := [(6, .int 16), (7, .int k4), (0, .ref a0), (1, .int k1), (2, .int k2), (3, .int k3), (4, .int k4), (5, .int k5)]) hx hb dX12_feed_111 hl (k := 1) rfl (by decide) (by decide) rfl (fun ls hl => ?_)
  refine lv_goto (tgt := 23) hx hb dX12_feed_114 (by decide) ?_
  refine lv_iload hx hb dX12_feed_23 (lv_at hl 0 rfl) ?_
  refine lv_bipush (v := 20) hx hb dX12_feed_25 (by decide) ?_
  refine lv_icmp_ge (tgt := 117) hx hb dX12_feed_27 (by decide) (fun c171 => absurd c171 (by decide)) (fun _ => ?_)
  refine lv_iload hx hb dX12_feed_30 (lv_at hl 0 rfl) ?_
  refine lv_iconst (v := 4) hx hb dX12_feed_32 (by decide) ?_
  refine lv_icmp_ge (tgt := 40) hx hb dX12_feed_33 (by decide) (fun _ => ?_) (fun c172 => absurd c172 (by decide))
  refine lv_iload hx hb dX12_feed_40 (lv_at hl 0 rfl) ?_
  refine lv_bipush (v := 8) hx hb dX12_feed_42 (by decide) ?_
  refine lv_icmp_ge (tgt := 51) hx hb dX12_feed_44 (by decide) (fun _ => ?_) (fun c173 => absurd c173 (by decide))
  refine lv_iload hx hb dX12_feed_51 (lv_at hl 0 rfl) ?_
  refine lv_bipush (v := 12) hx hb dX12_feed_53 (by decide) ?_
  refine lv_icmp_ge (tgt := 62) hx hb dX12_feed_55 (by decide) (fun _ => ?_) (fun c174 => absurd c174 (by decide))
  refine lv_iload hx hb dX12_feed_62 (lv_at hl 0 rfl) ?_
  refine lv_bipush (v := 16) hx hb dX12_feed_64 (by decide) ?_
  refine lv_icmp_ge (tgt := 74) hx hb dX12_feed_66 (by decide) (fun _ => ?_) (fun c175 => absurd c175 (by decide))
  refine lv_iload hx hb dX12_feed_74 (lv_at hl 7 rfl) ?_
  refine lv_istore (lv' := [(7, .int k5), (6, .int 16), (0, .ref a0), (1, .int k1), (2, .int k2), (3, .int k3), (4, .int k4), (5, .int k5)]) hx hb dX12_feed_76 hl (by decide) rfl (fun ls hl => ?_)
  refine lv_aload_n hx hb dX12_feed_78 rfl (lv_at hl 2 rfl) ?_
  refine va_get (D := (dC, dI)) (ci := 9) (v := .ref a6) (C := RX12) (T := TX12) (N := 30) hx hb hts iX12_feed_lo_X12 hown hK hP 0 rfl rfl 5 (by decide) (hts (.fieldLink RX12 13 "HookPierModel" "tape" "[B") (List.mem_of_getElem? (i := 3) rfl)) (fun _ h9 => h9) rfl dX12_feed_79 ?_
  refine lv_aload_n hx hb dX12_feed_82 rfl (lv_at hl 2 rfl) ?_
  refine va_get (D := (dC, dI)) (ci := 9) (v := .int z170) (C := RX12) (T := TX12) (N := 30) hx hb hts iX12_feed_lo_X12 hown hK hP 0 rfl rfl 6 (by decide) (hts (.fieldLink RX12 292 "HookPierModel" "taped" "I") (List.mem_of_getElem? (i := 2) rfl)) (fun _ h9 => h9) rfl dX12_feed_83 ?_
  refine lv_iload hx hb dX12_feed_86 (lv_at hl 0 rfl) ?_
  refine lv_bipush (v := 24) hx hb dX12_feed_88 (by decide) ?_
  refine lv_bipush (v := 8) hx hb dX12_feed_90 (by decide) ?_
  refine lv_iload hx hb dX12_feed_92 (lv_at hl 1 rfl) ?_
  refine lv_iconst (v := 4) hx hb dX12_feed_94 (by decide) ?_
  refine lv_irem hx hb dX12_feed_95 (by decide) ?_
  refine lv_topi (fun z176 ez176 => ?_)
  obtain rfl : z176 = 0 := ez176.trans (by decide)
  refine lv_imul hx hb dX12_feed_96 ?_
  refine lv_topi (fun z177 ez177 => ?_)
  obtain rfl : z177 = 0 := ez177.trans (by decide)
  refine lv_isub hx hb dX12_feed_97 ?_
  refine lv_topi (fun z178 ez178 => ?_)
  obtain rfl : z178 = 24 := ez178.trans (by decide)
  refine lv_ishr hx hb dX12_feed_98 ?_
  refine lv_topi (fun z179 ez179 => ?_)
  clear ez179
  refine lv_i2b hx hb dX12_feed_99 rfl ?_
  refine lv_topi (fun z180 ez180 => ?_)
  clear ez180
  refine va_bast hx hb hK hP hD hS 1 0 rfl rfl (vp_in_iff.mpr (by omega)) dX12_feed_100 (fun H locs hP hD hS => ?_)
  have hP : va_P (dC, dI) vwCl [(a0, .inr (9, [.int 0, g8, g9, g10, g11, .ref a6, .int z170, g13, g14, g15, g16, g17, g18, g19, g20, g21, g22, g23, g24, g25, g26, g27, g28, g29, g30, g31, g32, g33, g34, g35])), (a6, .inl (cB36, 900, .inl (upd f169 (z170 : Int32).toNatClampNeg (vp_nar .byte z180))))] H := hP
  have hD : va_D A [(a0, .inr (9, [.int 0, g8, g9, g10, g11, .ref a6, .int z170, g13, g14, g15, g16, g17, g18, g19, g20, g21, g22, g23, g24, g25, g26, g27, g28, g29, g30, g31, g32, g33, g34, g35])), (a6, .inl (cB36, 900, .inl (upd f169 (z170 : Int32).toNatClampNeg (vp_nar .byte z180))))] := hD
  generalize upd f169 (z170 : Int32).toNatClampNeg (vp_nar .byte z180) = f181 at hP hD
  refine lv_aload_n hx hb dX12_feed_101 rfl (lv_at hl 2 rfl) ?_
  refine lv_dup hx hb dX12_feed_102 rfl ?_
  refine va_get (D := (dC, dI)) (ci := 9) (v := .int z170) (C := RX12) (T := TX12) (N := 30) hx hb hts iX12_feed_lo_X12 hown hK hP 0 rfl rfl 6 (by decide) (hts (.fieldLink RX12 292 "HookPierModel" "taped" "I") (List.mem_of_getElem? (i := 2) rfl)) (fun _ h9 => h9) rfl dX12_feed_103 ?_
  refine lv_iconst (v := 1) hx hb dX12_feed_106 (by decide) ?_
  refine lv_iadd hx hb dX12_feed_107 ?_
  refine lv_topi (fun z182 ez182 => ?_)
  have tz182 : z182.toInt = z170.toInt + 1 := by rw [ez182]; rw [iadd_t (by first | omega | (simp only [ltv_0, ltv_1]; omega)) (by first | omega | (simp only [ltv_0, ltv_1]; omega))]; first | done | (simp only [ltv_0, ltv_1])
  refine va_put (D := (dC, dI)) (ci := 9) (v := .int z182) (ty := .int) (C := RX12) (T := TX12) (N := 30) hx hb hts iX12_feed_lo_X12 tyX12 tyX12_ok nmX12 hown hK hP hD hS 0 rfl rfl 6 (by decide) (hts (.fieldLink RX12 292 "HookPierModel" "taped" "I") (List.mem_of_getElem? (i := 2) rfl)) (fun _ h9 => h9) rfl (by decide +kernel) rfl rfl (Nat.le_of_ble_eq_true rfl) dX12_feed_108 (fun H locs hP hD hS => ?_)
  have hP : va_P (dC, dI) vwCl [(a0, .inr (9, [.int 0, g8, g9, g10, g11, .ref a6, .int z182, g13, g14, g15, g16, g17, g18, g19, g20, g21, g22, g23, g24, g25, g26, g27, g28, g29, g30, g31, g32, g33, g34, g35])), (a6, .inl (cB36, 900, .inl f181))] H := hP
  have hD : va_D A [(a0, .inr (9, [.int 0, g8, g9, g10, g11, .ref a6, .int z182, g13, g14, g15, g16, g17, g18, g19, g20, g21, g22, g23, g24, g25, g26, g27, g28, g29, g30, g31, g32, g33, g34, g35])), (a6, .inl (cB36, 900, .inl f181))] := hD
  refine lv_iinc (v := 17) (lv' := [(6, .int 17), (7, .int k5), (0, .ref a0), (1, .int k1), (2, .int k2), (3, .int k3), (4, .int k4), (5, .int k5)]) hx hb dX12_feed_111 hl (k := 1) rfl (by decide) (by decide) rfl (fun ls hl => ?_)
  refine lv_goto (tgt := 23) hx hb dX12_feed_114 (by decide) ?_
  refine lv_iload hx hb dX12_feed_23 (lv_at hl 0 rfl) ?_
  refine lv_bipush (v := 20) hx hb dX12_feed_25 (by decide) ?_
  refine lv_icmp_ge (tgt := 117) hx hb dX12_feed_27 (by decide) (fun c183 => absurd c183 (by decide)) (fun _ => ?_)
  refine lv_iload hx hb dX12_feed_30 (lv_at hl 0 rfl) ?_
  refine lv_iconst (v := 4) hx hb dX12_feed_32 (by decide) ?_
  refine lv_icmp_ge (tgt := 40) hx hb dX12_feed_33 (by decide) (fun _ => ?_) (fun c184 => absurd c184 (by decide))
  refine lv_iload hx hb dX12_feed_40 (lv_at hl 0 rfl) ?_
  refine lv_bipush (v := 8) hx hb dX12_feed_42 (by decide) ?_
  refine lv_icmp_ge (tgt := 51) hx hb dX12_feed_44 (by decide) (fun _ => ?_) (fun c185 => absurd c185 (by decide))
  refine lv_iload hx hb dX12_feed_51 (lv_at hl 0 rfl) ?_
  refine lv_bipush (v := 12) hx hb dX12_feed_53 (by decide) ?_
  refine lv_icmp_ge (tgt := 62) hx hb dX12_feed_55 (by decide) (fun _ => ?_) (fun c186 => absurd c186 (by decide))
  refine lv_iload hx hb dX12_feed_62 (lv_at hl 0 rfl) ?_
  refine lv_bipush (v := 16) hx hb dX12_feed_64 (by decide) ?_
  refine lv_icmp_ge (tgt := 74) hx hb dX12_feed_66 (by decide) (fun _ => ?_) (fun c187 => absurd c187 (by decide))
  refine lv_iload hx hb dX12_feed_74 (lv_at hl 7 rfl) ?_
  refine lv_istore (lv' := [(7, .int k5), (6, .int 17), (0, .ref a0), (1, .int k1), (2, .int k2), (3, .int k3), (4, .int k4), (5, .int k5)]) hx hb dX12_feed_76 hl (by decide) rfl (fun ls hl => ?_)
  refine lv_aload_n hx hb dX12_feed_78 rfl (lv_at hl 2 rfl) ?_
  refine va_get (D := (dC, dI)) (ci := 9) (v := .ref a6) (C := RX12) (T := TX12) (N := 30) hx hb hts iX12_feed_lo_X12 hown hK hP 0 rfl rfl 5 (by decide) (hts (.fieldLink RX12 13 "HookPierModel" "tape" "[B") (List.mem_of_getElem? (i := 3) rfl)) (fun _ h9 => h9) rfl dX12_feed_79 ?_
  refine lv_aload_n hx hb dX12_feed_82 rfl (lv_at hl 2 rfl) ?_
  refine va_get (D := (dC, dI)) (ci := 9) (v := .int z182) (C := RX12) (T := TX12) (N := 30) hx hb hts iX12_feed_lo_X12 hown hK hP 0 rfl rfl 6 (by decide) (hts (.fieldLink RX12 292 "HookPierModel" "taped" "I") (List.mem_of_getElem? (i := 2) rfl)) (fun _ h9 => h9) rfl dX12_feed_83 ?_
  refine lv_iload hx hb dX12_feed_86 (lv_at hl 0 rfl) ?_
  refine lv_bipush (v := 24) hx hb dX12_feed_88 (by decide) ?_
  refine lv_bipush (v := 8) hx hb dX12_feed_90 (by decide) ?_
  refine lv_iload hx hb dX12_feed_92 (lv_at hl 1 rfl) ?_
  refine lv_iconst (v := 4) hx hb dX12_feed_94 (by decide) ?_
  refine lv_irem hx hb dX12_feed_95 (by decide) ?_
  refine lv_topi (fun z188 ez188 => ?_)
  obtain rfl : z188 = 1 := ez188.trans (by decide)
  refine lv_imul hx hb dX12_feed_96 ?_
  refine lv_topi (fun z189 ez189 => ?_)
  obtain rfl : z189 = 8 := ez189.trans (by decide)
  refine lv_isub hx hb dX12_feed_97 ?_
  refine lv_topi (fun z190 ez190 => ?_)
  obtain rfl : z190 = 16 := ez190.trans (by decide)
  refine lv_ishr hx hb dX12_feed_98 ?_
  refine lv_topi (fun z191 ez191 => ?_)
  clear ez191
  refine lv_i2b hx hb dX12_feed_99 rfl ?_
  refine lv_topi (fun z192 ez192 => ?_)
  clear ez192
  refine va_bast hx hb hK hP hD hS 1 0 rfl rfl (vp_in_iff.mpr (by omega)) dX12_feed_100 (fun H locs hP hD hS => ?_)
  have hP : va_P (dC, dI) vwCl [(a0, .inr (9, [.int 0, g8, g9, g10, g11, .ref a6, .int z182, g13, g14, g15, g16, g17, g18, g19, g20, g21, g22, g23, g24, g25, g26, g27, g28, g29, g30, g31, g32, g33, g34, g35])), (a6, .inl (cB36, 900, .inl (upd f181 (z182 : Int32).toNatClampNeg (vp_nar .byte z192))))] H := hP
  have hD : va_D A [(a0, .inr (9, [.int 0, g8, g9, g10, g11, .ref a6, .int z182, g13, g14, g15, g16, g17, g18, g19, g20, g21, g22, g23, g24, g25, g26, g27, g28, g29, g30, g31, g32, g33, g34, g35])), (a6, .inl (cB36, 900, .inl (upd f181 (z182 : Int32).toNatClampNeg (vp_nar .byte z192))))] := hD
  generalize upd f181 (z182 : Int32).toNatClampNeg (vp_nar .byte z192) = f193 at hP hD
  refine lv_aload_n hx hb dX12_feed_101 rfl (lv_at hl 2 rfl) ?_
  refine lv_dup hx hb dX12_feed_102 rfl ?_
  refine va_get (D := (dC, dI)) (ci := 9) (v := .int z182) (C := RX12) (T := TX12) (N := 30) hx hb hts iX12_feed_lo_X12 hown hK hP 0 rfl rfl 6 (by decide) (hts (.fieldLink RX12 292 "HookPierModel" "taped" "I") (List.mem_of_getElem? (i := 2) rfl)) (fun _ h9 => h9) rfl dX12_feed_103 ?_
  refine lv_iconst (v := 1) hx hb dX12_feed_106 (by decide) ?_
  refine lv_iadd hx hb dX12_feed_107 ?_
  refine lv_topi (fun z194 ez194 => ?_)
  have tz194 : z194.toInt = z182.toInt + 1 := by rw [ez194]; rw [iadd_t (by first | omega | (simp only [ltv_0, ltv_1]; omega)) (by first | omega | (simp only [ltv_0, ltv_1]; omega))]; first | done | (simp only [ltv_0, ltv_1])
  refine va_put (D := (dC, dI)) (ci := 9) (v := .int z194) (ty := .int) (C := RX12) (T := TX12) (N := 30) hx hb hts iX12_feed_lo_X12 tyX12 tyX12_ok nmX12 hown hK hP hD hS 0 rfl rfl 6 (by decide) (hts (.fieldLink RX12 292 "HookPierModel" "taped" "I") (List.mem_of_getElem? (i := 2) rfl)) (fun _ h9 => h9) rfl (by decide +kernel) rfl rfl (Nat.le_of_ble_eq_true rfl) dX12_feed_108 (fun H locs hP hD hS => ?_)
  have hP : va_P (dC, dI) vwCl [(a0, .inr (9, [.int 0, g8, g9, g10, g11, .ref a6, .int z194, g13, g14, g15, g16, g17, g18, g19, g20, g21, g22, g23, g24, g25, g26, g27, g28, g29, g30, g31, g32, g33, g34, g35])), (a6, .inl (cB36, 900, .inl f193))] H := hP
  have hD : va_D A [(a0, .inr (9, [.int 0, g8, g9, g10, g11, .ref a6, .int z194, g13, g14, g15, g16, g17, g18, g19, g20, g21, g22, g23, g24, g25, g26, g27, g28, g29, g30, g31, g32, g33, g34, g35])), (a6, .inl (cB36, 900, .inl f193))] := hD
  refine lv_iinc (v := 18) (lv' := [(6, .int 18), (7, .int k5), (0, .ref a0), (1, .int k1), (2, .int k2), (3, .int k3), (4, .int k4), (5, .int k5)]) hx hb dX12_feed_111 hl (k := 1) rfl (by decide) (by decide) rfl (fun ls hl => ?_)
  refine lv_goto (tgt := 23) hx hb dX12_feed_114 (by decide) ?_
  refine lv_iload hx hb dX12_feed_23 (lv_at hl 0 rfl) ?_
  refine lv_bipush (v := 20) hx hb dX12_feed_25 (by decide) ?_
  refine lv_icmp_ge (tgt := 117) hx hb dX12_feed_27 (by decide) (fun c195 => absurd c195 (by decide)) (fun _ => ?_)
  refine lv_iload hx hb dX12_feed_30 (lv_at hl 0 rfl) ?_
  refine lv_iconst (v := 4) hx hb dX12_feed_32 (by decide) ?_
  refine lv_icmp_ge (tgt := 40) hx hb dX12_feed_33 (by decide) (fun _ => ?_) (fun c196 => absurd c196 (by decide))
  refine lv_iload hx hb dX12_feed_40 (lv_at hl 0 rfl) ?_
  refine lv_bipush (v := 8) hx hb dX12_feed_42 (by decide) ?_
  refine lv_icmp_ge (tgt := 51) hx hb dX12_feed_44 (by decide) (fun _ => ?_) (fun c197 => absurd c197 (by decide))
  refine lv_iload hx hb dX12_feed_51 (lv_at hl 0 rfl) ?_
  refine lv_bipush (v := 12) hx hb dX12_feed_53 (by decide) ?_
  refine lv_icmp_ge (tgt := 62) hx hb dX12_feed_55 (by decide) (fun _ => ?_) (fun c198 => absurd c198 (by decide))
  refine lv_iload hx hb dX12_feed_62 (lv_at hl 0 rfl) ?_
  refine lv_bipush (v := 16) hx hb dX12_feed_64 (by decide) ?_
  refine lv_icmp_ge (tgt := 74) hx hb dX12_feed_66 (by decide) (fun _ => ?_) (fun c199 => absurd c199 (by decide))
  refine lv_iload hx hb dX12_feed_74 (lv_at hl 7 rfl) ?_
  refine lv_istore (lv' := [(7, .int k5), (6, .int 18), (0, .ref a0), (1, .int k1), (2, .int k2), (3, .int k3), (4, .int k4), (5, .int k5)]) hx hb dX12_feed_76 hl (by decide) rfl (fun ls hl => ?_)
  refine lv_aload_n hx hb dX12_feed_78 rfl (lv_at hl 2 rfl) ?_
  refine va_get (D := (dC, dI)) (ci := 9) (v := .ref a6) (C := RX12) (T := TX12) (N := 30) hx hb hts iX12_feed_lo_X12 hown hK hP 0 rfl rfl 5 (by decide) (hts (.fieldLink RX12 13 "HookPierModel" "tape" "[B") (List.mem_of_getElem? (i := 3) rfl)) (fun _ h9 => h9) rfl dX12_feed_79 ?_
  refine lv_aload_n hx hb dX12_feed_82 rfl (lv_at hl 2 rfl) ?_
  refine va_get (D := (dC, dI)) (ci := 9) (v := .int z194) (C := RX12) (T := TX12) (N := 30) hx hb hts iX12_feed_lo_X12 hown hK hP 0 rfl rfl 6 (by decide) (hts (.fieldLink RX12 292 "HookPierModel" "taped" "I") (List.mem_of_getElem? (i := 2) rfl)) (fun _ h9 => h9) rfl dX12_feed_83 ?_
  refine lv_iload hx hb dX12_feed_86 (lv_at hl 0 rfl) ?_
  refine lv_bipush (v := 24) hx hb dX12_feed_88 (by decide) ?_
  refine lv_bipush (v := 8) hx hb dX12_feed_90 (by decide) ?_
  refine lv_iload hx hb dX12_feed_92 (lv_at hl 1 rfl) ?_
  refine lv_iconst (v := 4) hx hb dX12_feed_94 (by decide) ?_
  refine lv_irem hx hb dX12_feed_95 (by decide) ?_
  refine lv_topi (fun z200 ez200 => ?_)
  obtain rfl : z200 = 2 := ez200.trans (by decide)
  refine lv_imul hx hb dX12_feed_96 ?_
  refine lv_topi (fun z201 ez201 => ?_)
  obtain rfl : z201 = 16 := ez201.trans (by decide)
  refine lv_isub hx hb dX12_feed_97 ?_
  refine lv_topi (fun z202 ez202 => ?_)
  obtain rfl : z202 = 8 := ez202.trans (by decide)
  refine lv_ishr hx hb dX12_feed_98 ?_
  refine lv_topi (fun z203 ez203 => ?_)
  clear ez203
  refine lv_i2b hx hb dX12_feed_99 rfl ?_
  refine lv_topi (fun z204 ez204 => ?_)
  clear ez204
  refine va_bast hx hb hK hP hD hS 1 0 rfl rfl (vp_in_iff.mpr (by omega)) dX12_feed_100 (fun H locs hP hD hS => ?_)
  have hP : va_P (dC, dI) vwCl [(a0, .inr (9, [.int 0, g8, g9, g10, g11, .ref a6, .int z194, g13, g14, g15, g16, g17, g18, g19, g20, g21, g22, g23, g24, g25, g26, g27, g28, g29, g30, g31, g32, g33, g34, g35])), (a6, .inl (cB36, 900, .inl (upd f193 (z194 : Int32).toNatClampNeg (vp_nar .byte z204))))] H := hP
  have hD : va_D A [(a0, .inr (9, [.int 0, g8, g9, g10, g11, .ref a6, .int z194, g13, g14, g15, g16, g17, g18, g19, g20, g21, g22, g23, g24, g25, g26, g27, g28, g29, g30, g31, g32, g33, g34, g35])), (a6, .inl (cB36, 900, .inl (upd f193 (z194 : Int32).toNatClampNeg (vp_nar .byte z204))))] := hD
  generalize upd f193 (z194 : Int32).toNatClampNeg (vp_nar .byte z204) = f205 at hP hD
  refine lv_aload_n hx hb dX12_feed_101 rfl (lv_at hl 2 rfl) ?_
  refine lv_dup hx hb dX12_feed_102 rfl ?_
  refine va_get (D := (dC, dI)) (ci := 9) (v := .int z194) (C := RX12) (T := TX12) (N := 30) hx hb hts iX12_feed_lo_X12 hown hK hP 0 rfl rfl 6 (by decide) (hts (.fieldLink RX12 292 "HookPierModel" "taped" "I") (List.mem_of_getElem? (i := 2) rfl)) (fun _ h9 => h9) rfl dX12_feed_103 ?_
  refine lv_iconst (v := 1) hx hb dX12_feed_106 (by decide) ?_
  refine lv_iadd hx hb dX12_feed_107 ?_
  refine lv_topi (fun z206 ez206 => ?_)
  have tz206 : z206.toInt = z194.toInt + 1 := by rw [ez206]; rw [iadd_t (by first | omega | (simp only [ltv_0, ltv_1]; omega)) (by first | omega | (simp only [ltv_0, ltv_1]; omega))]; first | done | (simp only [ltv_0, ltv_1])
  refine va_put (D := (dC, dI)) (ci := 9) (v := .int z206) (ty := .int) (C := RX12) (T := TX12) (N := 30) hx hb hts iX12_feed_lo_X12 tyX12 tyX12_ok nmX12 hown hK hP hD hS 0 rfl rfl 6 (by decide) (hts (.fieldLink RX12 292 "HookPierModel" "taped" "I") (List.mem_of_getElem? (i := 2) rfl)) (fun _ h9 => h9) rfl (by decide +kernel) rfl rfl (Nat.le_of_ble_eq_true rfl) dX12_feed_108 (fun H locs hP hD hS => ?_)
  have hP : va_P (dC, dI) vwCl [(a0, .inr (9, [.int 0, g8, g9, g10, g11, .ref a6, .int z206, g13, g14, g15, g16, g17, g18, g19, g20, g21, g22, g23, g24, g25, g26, g27, g28, g29, g30, g31, g32, g33, g34, g35])), (a6, .inl (cB36, 900, .inl f205))] H := hP
  have hD : va_D A [(a0, .inr (9, [.int 0, g8, g9, g10, g11, .ref a6, .int z206, g13, g14, g15, g16, g17, g18, g19, g20, g21, g22, g23, g24, g25, g26, g27, g28, g29, g30, g31, g32, g33, g34, g35])), (a6, .inl (cB36, 900, .inl f205))] := hD
  refine lv_iinc (v := 19) (lv' := [(6, .int 19), (7, .int k5), (0, .ref a0), (1, .int k1), (2, .int k2), (3, .int k3), (4, .int k4), (5, .int k5)]) hx hb dX12_feed_111 hl (k := 1) rfl (by decide) (by decide) rfl (fun ls hl => ?_)
  refine lv_goto (tgt := 23) hx hb dX12_feed_114 (by decide) ?_
  refine lv_iload hx hb dX12_feed_23 (lv_at hl 0 rfl) ?_
  refine lv_bipush (v := 20) hx hb dX12_feed_25 (by decide) ?_
  refine lv_icmp_ge (tgt := 117) hx hb dX12_feed_27 (by decide) (fun c207 => absurd c207 (by decide)) (fun _ => ?_)
  refine lv_iload hx hb dX12_feed_30 (lv_at hl 0 rfl) ?_
  refine lv_iconst (v := 4) hx hb dX12_feed_32 (by decide) ?_
  refine lv_icmp_ge (tgt := 40) hx hb dX12_feed_33 (by decide) (fun _ => ?_) (fun c208 => absurd c208 (by decide))
  refine lv_iload hx hb dX12_feed_40 (lv_at hl 0 rfl) ?_
  refine lv_bipush (v := 8) hx hb dX12_feed_42 (by decide) ?_
  refine lv_icmp_ge (tgt := 51) hx hb dX12_feed_44 (by decide) (fun _ => ?_) (fun c209 => absurd c209 (by decide))
  refine lv_iload hx hb dX12_feed_51 (lv_at hl 0 rfl) ?_
  refine lv_bipush (v := 12) hx hb dX12_feed_53 (by decide) ?_
  refine lv_icmp_ge (tgt := 62) hx hb dX12_feed_55 (by decide) (fun _ => ?_) (fun c210 => absurd c210 (by decide))
  refine lv_iload hx hb dX12_feed_62 (lv_at hl 0 rfl) ?_
  refine lv_bipush (v := 16) hx hb dX12_feed_64 (by decide) ?_
  refine lv_icmp_ge (tgt := 74) hx hb dX12_feed_66 (by decide) (fun _ => ?_) (fun c211 => absurd c211 (by decide))
  refine lv_iload hx hb dX12_feed_74 (lv_at hl 7 rfl) ?_
  refine lv_istore (lv' := [(7, .int k5), (6, .int 19), (0, .ref a0), (1, .int k1), (2, .int k2), (3, .int k3), (4, .int k4), (5, .int k5)]) hx hb dX12_feed_76 hl (by decide) rfl (fun ls hl => ?_)
  refine lv_aload_n hx hb dX12_feed_78 rfl (lv_at hl 2 rfl) ?_
  refine va_get (D := (dC, dI)) (ci := 9) (v := .ref a6) (C := RX12) (T := TX12) (N := 30) hx hb hts iX12_feed_lo_X12 hown hK hP 0 rfl rfl 5 (by decide) (hts (.fieldLink RX12 13 "HookPierModel" "tape" "[B") (List.mem_of_getElem? (i := 3) rfl)) (fun _ h9 => h9) rfl dX12_feed_79 ?_
  refine lv_aload_n hx hb dX12_feed_82 rfl (lv_at hl 2 rfl) ?_
  refine va_get (D := (dC, dI)) (ci := 9) (v := .int z206) (C := RX12) (T := TX12) (N := 30) hx hb hts iX12_feed_lo_X12 hown hK hP 0 rfl rfl 6 (by decide) (hts (.fieldLink RX12 292 "HookPierModel" "taped" "I") (List.mem_of_getElem? (i := 2) rfl)) (fun _ h9 => h9) rfl dX12_feed_83 ?_
  refine lv_iload hx hb dX12_feed_86 (lv_at hl 0 rfl) ?_
  refine lv_bipush (v := 24) hx hb dX12_feed_88 (by decide) ?_
  refine lv_bipush (v := 8) hx hb dX12_feed_90 (by decide) ?_
  refine lv_iload hx hb dX12_feed_92 (lv_at hl 1 rfl) ?_
  refine lv_iconst (v := 4) hx hb dX12_feed_94 (by decide) ?_
  refine lv_irem hx hb dX12_feed_95 (by decide) ?_
  refine lv_topi (fun z212 ez212 => ?_)
  obtain rfl : z212 = 3 := ez212.trans (by decide)
  refine lv_imul hx hb dX12_feed_96 ?_
  refine lv_topi (fun z213 ez213 => ?_)
  obtain rfl : z213 = 24 := ez213.trans (by decide)
  refine lv_isub hx hb dX12_feed_97 ?_
  refine lv_topi (fun z214 ez214 => ?_)
  obtain rfl : z214 = 0 := ez214.trans (by decide)
  refine lv_ishr hx hb dX12_feed_98 ?_
  refine lv_topi (fun z215 ez215 => ?_)
  clear ez215
  refine lv_i2b hx hb dX12_feed_99 rfl ?_
  refine lv_topi (fun z216 ez216 => ?_)
  clear ez216
  refine va_bast hx hb hK hP hD hS 1 0 rfl rfl (vp_in_iff.mpr (by omega)) dX12_feed_100 (fun H locs hP hD hS => ?_)
  have hP : va_P (dC, dI) vwCl [(a0, .inr (9, [.int 0, g8, g9, g10, g11, .ref a6, .int z206, g13, g14, g15, g16, g17, g18, g19, g20, g21, g22, g23, g24, g25, g26, g27, g28, g29, g30, g31, g32, g33, g34, g35])), (a6, .inl (cB36, 900, .inl (upd f205 (z206 : Int32).toNatClampNeg (vp_nar .byte z216))))] H := hP
  have hD : va_D A [(a0, .inr (9, [.int 0, g8, g9, g10, g11, .ref a6, .int z206, g13, g14, g15, g16, g17, g18, g19, g20, g21, g22, g23, g24, g25, g26, g27, g28, g29, g30, g31, g32, g33, g34, g35])), (a6, .inl (cB36, 900, .inl (upd f205 (z206 : Int32).toNatClampNeg (vp_nar .byte z216))))] := hD
  generalize upd f205 (z206 : Int32).toNatClampNeg (vp_nar .byte z216) = f217 at hP hD
  refine lv_aload_n hx hb dX12_feed_101 rfl (lv_at hl 2 rfl) ?_
  refine lv_dup hx hb dX12_feed_102 rfl ?_
  refine va_get (D := (dC, dI)) (ci := 9) (v := .int z206) (C := RX12) (T := TX12) (N := 30) hx hb hts iX12_feed_lo_X12 hown hK hP 0 rfl rfl 6 (by decide) (hts (.fieldLink RX12 292 "HookPierModel" "taped" "I") (List.mem_of_getElem? (i := 2) rfl)) (fun _ h9 => h9) rfl dX12_feed_103 ?_
  refine lv_iconst (v := 1) hx hb dX12_feed_106 (by decide) ?_
  refine lv_iadd hx hb dX12_feed_107 ?_
  refine lv_topi (fun z218 ez218 => ?_)
  have tz218 : z218.toInt = z206.toInt + 1 := by rw [ez218]; rw [iadd_t (by first | omega | (simp only [ltv_0, ltv_1]; omega)) (by first | omega | (simp only [ltv_0, ltv_1]; omega))]; first | done | (simp only [ltv_0, ltv_1])
  refine va_put (D := (dC, dI)) (ci := 9) (v := .int z218) (ty := .int) (C := RX12) (T := TX12) (N := 30) hx hb hts iX12_feed_lo_X12 tyX12 tyX12_ok nmX12 hown hK hP hD hS 0 rfl rfl 6 (by decide) (hts (.fieldLink RX12 292 "HookPierModel" "taped" "I") (List.mem_of_getElem? (i := 2) rfl)) (fun _ h9 => h9) rfl (by decide +kernel) rfl rfl (Nat.le_of_ble_eq_true rfl) dX12_feed_108 (fun H locs hP hD hS => ?_)
  have hP : va_P (dC, dI) vwCl [(a0, .inr (9, [.int 0, g8, g9, g10, g11, .ref a6, .int z218, g13, g14, g15, g16, g17, g18, g19, g20, g21, g22, g23, g24, g25, g26, g27, g28, g29, g30, g31, g32, g33, g34, g35])), (a6, .inl (cB36, 900, .inl f217))] H := hP
  have hD : va_D A [(a0, .inr (9, [.int 0, g8, g9, g10, g11, .ref a6, .int z218, g13, g14, g15, g16, g17, g18, g19, g20, g21, g22, g23, g24, g25, g26, g27, g28, g29, g30, g31, g32, g33, g34, g35])), (a6, .inl (cB36, 900, .inl f217))] := hD
  refine lv_iinc (v := 20) (lv' := [(6, .int 20), (7, .int k5), (0, .ref a0), (1, .int k1), (2, .int k2), (3, .int k3), (4, .int k4), (5, .int k5)]) hx hb dX12_feed_111 hl (k := 1) rfl (by decide) (by decide) rfl (fun ls hl => ?_)
  refine lv_goto (tgt := 23) hx hb dX12_feed_114 (by decide) ?_
  refine lv_iload hx hb dX12_feed_23 (lv_at hl 0 rfl) ?_
  refine lv_bipush (v := 20) hx hb dX12_feed_25 (by decide) ?_
  refine lv_icmp_ge (tgt := 117) hx hb dX12_feed_27 (by decide) (fun _ => ?_) (fun c219 => absurd c219 (by decide))
  refine lv_aload_n hx hb dX12_feed_117 rfl (lv_at hl 2 rfl) ?_
  refine va_get (D := (dC, dI)) (ci := 9) (v := .int z218) (C := RX12) (T := TX12) (N := 30) hx hb hts iX12_feed_lo_X12 hown hK hP 0 rfl rfl 6 (by decide) (hts (.fieldLink RX12 292 "HookPierModel" "taped" "I") (List.mem_of_getElem? (i := 2) rfl)) (fun _ h9 => h9) rfl dX12_feed_118 ?_
  have hP9 := hP.sub (ws' := [(a0, .inr (9, [.int 0, g8, g9, g10, g11, .ref a6, .int z218, g13, g14, g15, g16, g17, g18, g19, g20, g21, g22, g23, g24, g25, g26, g27, g28, g29, g30, g31, g32, g33, g34, g35])), (a6, .inl (cB36, 900, .inl f217))]) [0, 1] rfl
  have hD9 := hD.sub (ws' := [(a0, .inr (9, [.int 0, g8, g9, g10, g11, .ref a6, .int z218, g13, g14, g15, g16, g17, g18, g19, g20, g21, g22, g23, g24, g25, g26, g27, g28, g29, g30, g31, g32, g33, g34, g35])), (a6, .inl (cB36, 900, .inl f217))]) [0, 1] (by decide) rfl
  have hK9 := hK.sub (tys' := []) [] rfl
  exact W.iret (v := z218) hx hb hr (fun t ht hW => ⟨⟨z218, (z218, f217), rfl, ⟨(by first | trivial | omega | (simp only [ltv_0]; omega)), (by first | trivial | omega | (simp only [ltv_0]; omega)), (by first | trivial | omega | (simp only [ltv_0]; omega)), (by first | trivial | omega | (simp only [ltv_0]; omega))⟩, by rw [ht]; exact hP9, va_K.moved hW.alike hK9, hD9⟩, hS.F ht⟩) hS.2.2 dX12_feed_121
def vX12_feed_hi : List Cond := .code yX12_feed cX12_feed 8 (some .int) :: ([.fieldLink RX12 36 "HookPierModel" "thrown" "I", .fieldLink RX12 292 "HookPierModel" "taped" "I"] ++ wsX120)
theorem iX12_feed_hi_X12 : ∀ w ∈ wsX120, w ∈ vX12_feed_hi := fun _ h => List.mem_cons_of_mem _ (List.mem_append_right _ h)
set_option maxHeartbeats 2000000 in
set_option maxRecDepth 100000 in
theorem kX12_feed_hi (l : Launch) (dC : Nat → ClassId) (dI : Nat → Nat → Nat) (a0 : Nat) (k1 : Int32) (k2 : Int32) (k3 : Int32) (k4 : Int32) (k5 : Int32) (k6 : Int32) (g7 : Value) (g8 : Value) (g9 : Value) (g10 : Value) (g11 : Value) (k12 : Int32) (g13 : Value) (g14 : Value) (g15 : Value) (g16 : Value) (g17 : Value) (g18 : Value) (g19 : Value) (g20 : Value) (g21 : Value) (g22 : Value) (g23 : Value) (g24 : Value) (g25 : Value) (g26 : Value) (g27 : Value) (g28 : Value) (g29 : Value) (g30 : Value) (g31 : Value) (g32 : Value) (g33 : Value) (g34 : Value) (g35 : Value) (hk12 : (881 ≤ k12.toInt ∧ k12.toInt ≤ 900)) (sz : Nat) : Met l yX12_feed vX12_feed_hi ({ frames := 0, cells := 0, slots := 0, locals := 0 }) (PC (dC, dI) [.ref a0, .int k1, .int k2, .int k3, .int k4, .int k5] sz [(a0, .inr (9, [.int k6, g7, g8, g9, g10, g11, .int k12, g13, g14, g15, g16, g17, g18, g19, g20, g21, g22, g23, g24, g25, g26, g27, g28, g29, g30, g31, g32, g33, g34, g35]))] []) (va_Qi (S := Unit) (fun (r : Int32) _ => r = (-1)) (fun _ t => BC (dC, dI) (va_A [(a0, .inr (9, [.int k6, g7, g8, g9, g10, g11, .int k12, g13, g14, g15, g16, g17, g18, g19, g20, g21, g22, g23, g24, g25, g26, g27, g28, g29, g30, g31, g32, g33, g34, g35]))] sz) [(a0, .inr (9, [.int 0, g7, g8, g9, g10, g11, .int k12, g13, g14, g15, g16, g17, g18, g19, g20, g21, g22, g23, g24, g25, g26, g27, g28, g29, g30, g31, g32, g33, g34, g35]))] [] t) (va_A [(a0, .inr (9, [.int k6, g7, g8, g9, g10, g11, .int k12, g13, g14, g15, g16, g17, g18, g19, g20, g21, g22, g23, g24, g25, g26, g27, g28, g29, g30, g31, g32, g33, g34, g35]))] sz)) 0 0 (va_A [(a0, .inr (9, [.int k6, g7, g8, g9, g10, g11, .int k12, g13, g14, g15, g16, g17, g18, g19, g20, g21, g22, g23, g24, g25, g26, g27, g28, g29, g30, g31, g32, g33, g34, g35]))] sz) := by
  refine Met.ofW (cc := cX12_feed) (maxL := 8) (ret := (some .int)) (by decide) rfl ?_
  intro p e s m args below meth c s₁ B hml hv
  obtain ⟨rfl, hsz, hP, hK, hD0, hN⟩ := hv
  have hx := B.exec
  have hb := B.bytes
  have hr := B.returns
  have hts := atoms_spec (ws := vX12_feed_hi) B.pre
  have hown : s.vm.findClass RX12 = some m.cls := findClass_of_methodNamed B.named
  have hlocks := B.notSynchronized
  subst hsz
  have hD := hD0.self (sz := s.heap.size)
  generalize hAe : va_A [(a0, .inr (9, [.int k6, g7, g8, g9, g10, g11, .int k12, g13, g14, g15, g16, g17, g18, g19, g20, g21, g22, g23, g24, g25, g26, g27, g28, g29, g30, g31, g32, g33, g34, g35]))] s.heap.size = A at hD ⊢
  have hA : ∀ q : Nat, s.heap.size ≤ q → A q := fun q h => by rw [← hAe]; exact Or.inr h
  have hS : va_S A s.heap s.heap [] := va_S.rf
  have hP : va_P (dC, dI) vwCl [(a0, .inr (9, [.int k6, g7, g8, g9, g10, g11, .int k12, g13, g14, g15, g16, g17, g18, g19, g20, g21, g22, g23, g24, g25, g26, g27, g28, g29, g30, g31, g32, g33, g34, g35]))] s.heap := hP
  have hl := lv_entry ([.ref a0, .int k1, .int k2, .int k3, .int k4, .int k5]) (n := 8) (Nat.le_of_ble_eq_true rfl)
  rw [lg_entry_eq]
  generalize (lg_sl ([.ref a0, .int k1, .int k2, .int k3, .int k4, .int k5]) ++ List.replicate (8 - (lg_sl ([.ref a0, .int k1, .int k2, .int k3, .int k4, .int k5])).length) Slot.unset).toArray = ls at hl ⊢
  have hl : lv_has ls 8 [(0, .ref a0), (1, .int k1), (2, .int k2), (3, .int k3), (4, .int k4), (5, .int k5)] := hl
  refine lv_aload_n hx hb dX12_feed_0 rfl (lv_at hl 0 rfl) ?_
  refine lv_iconst (v := 0) hx hb dX12_feed_1 (by decide) ?_
  refine va_put (D := (dC, dI)) (ci := 9) (v := .int 0) (ty := .int) (C := RX12) (T := TX12) (N := 30) hx hb hts iX12_feed_hi_X12 tyX12 tyX12_ok nmX12 hown hK hP hD hS 0 rfl rfl 0 (by decide) (hts (.fieldLink RX12 36 "HookPierModel" "thrown" "I") (List.mem_of_getElem? (i := 1) rfl)) (fun _ h9 => h9) rfl (by decide +kernel) rfl rfl (Nat.le_of_ble_eq_true rfl) dX12_feed_2 (fun H locs hP hD hS => ?_)
  have hP : va_P (dC, dI) vwCl [(a0, .inr (9, [.int 0, g7, g8, g9, g10, g11, .int k12, g13, g14, g15, g16, g17, g18, g19, g20, g21, g22, g23, g24, g25, g26, g27, g28, g29, g30, g31, g32, g33, g34, g35]))] H := hP
  have hD : va_D A [(a0, .inr (9, [.int 0, g7, g8, g9, g10, g11, .int k12, g13, g14, g15, g16, g17, g18, g19, g20, g21, g22, g23, g24, g25, g26, g27, g28, g29, g30, g31, g32, g33, g34, g35]))] := hD
  refine lv_aload_n hx hb dX12_feed_5 rfl (lv_at hl 0 rfl) ?_
  refine va_get (D := (dC, dI)) (ci := 9) (v := .int k12) (C := RX12) (T := TX12) (N := 30) hx hb hts iX12_feed_hi_X12 hown hK hP 0 rfl rfl 6 (by decide) (hts (.fieldLink RX12 292 "HookPierModel" "taped" "I") (List.mem_of_getElem? (i := 2) rfl)) (fun _ h9 => h9) rfl dX12_feed_6 ?_
  refine lv_bipush (v := 20) hx hb dX12_feed_9 (by decide) ?_
  refine lv_iadd hx hb dX12_feed_11 ?_
  refine lv_topi (fun z1 ez1 => ?_)
  have tz1 : z1.toInt = k12.toInt + 20 := by rw [ez1]; rw [iadd_t (by first | omega | (simp only [ltv_0, ltv_20]; omega)) (by first | omega | (simp only [ltv_0, ltv_20]; omega))]; first | done | (simp only [ltv_0, ltv_20])
  refine lv_sipush (v := 900) hx hb dX12_feed_12 (by decide) ?_
  refine lv_icmp_le (tgt := 20) hx hb dX12_feed_15 (by decide) (fun c2 => False.elim (by simp only [fa_lt, fa_le, fa_eq, ltv_0, ltv_900] at c2; omega)) (fun _ => ?_)
  refine lv_iconst (v := (-1)) hx hb dX12_feed_18 (by decide) ?_
  have hP9 := hP.sub (ws' := [(a0, .inr (9, [.int 0, g7, g8, g9, g10, g11, .int k12, g13, g14, g15, g16, g17, g18, g19, g20, g21, g22, g23, g24, g25, g26, g27, g28, g29, g30, g31, g32, g33, g34, g35]))]) [0] rfl
  have hD9 := hD.sub (ws' := [(a0, .inr (9, [.int 0, g7, g8, g9, g10, g11, .int k12, g13, g14, g15, g16, g17, g18, g19, g20, g21, g22, g23, g24, g25, g26, g27, g28, g29, g30, g31, g32, g33, g34, g35]))]) [0] (by decide) rfl
  have hK9 := hK.sub (tys' := []) [] rfl
  exact W.iret (v := (-1)) hx hb hr (fun t ht hW => ⟨⟨(-1), (), rfl, rfl, by rw [ht]; exact hP9, va_K.moved hW.alike hK9, hD9⟩, hS.F ht⟩) hS.2.2 dX12_feed_19
