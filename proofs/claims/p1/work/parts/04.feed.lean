theorem dX7_put_0 : decode cX7_put 0 = .ok (.bipush 24, 2) := by decide +kernel
theorem dX7_put_11 : decode cX7_put 11 = .ok (.aload_n 0, 1) := by decide +kernel
theorem dX7_put_12 : decode cX7_put 12 = .ok (.getfield 9, 3) := by decide +kernel
theorem dX7_put_15 : decode cX7_put 15 = .ok (.arraylength, 1) := by decide +kernel
theorem dX7_put_16 : decode cX7_put 16 = .ok (.if_icmp .ge 32, 3) := by decide +kernel
theorem dX7_put_19 : decode cX7_put 19 = .ok (.aload_n 0, 1) := by decide +kernel
theorem dX7_put_2 : decode cX7_put 2 = .ok (.istore_n 2, 1) := by decide +kernel
theorem dX7_put_20 : decode cX7_put 20 = .ok (.getfield 9, 3) := by decide +kernel
theorem dX7_put_23 : decode cX7_put 23 = .ok (.aload_n 0, 1) := by decide +kernel
theorem dX7_put_24 : decode cX7_put 24 = .ok (.getfield 15, 3) := by decide +kernel
theorem dX7_put_27 : decode cX7_put 27 = .ok (.iload_n 1, 1) := by decide +kernel
theorem dX7_put_28 : decode cX7_put 28 = .ok (.iload_n 2, 1) := by decide +kernel
theorem dX7_put_29 : decode cX7_put 29 = .ok (.ishr, 1) := by decide +kernel
theorem dX7_put_3 : decode cX7_put 3 = .ok (.iload_n 2, 1) := by decide +kernel
theorem dX7_put_30 : decode cX7_put 30 = .ok (.i2b, 1) := by decide +kernel
theorem dX7_put_31 : decode cX7_put 31 = .ok (.bastore, 1) := by decide +kernel
theorem dX7_put_32 : decode cX7_put 32 = .ok (.aload_n 0, 1) := by decide +kernel
theorem dX7_put_33 : decode cX7_put 33 = .ok (.dup, 1) := by decide +kernel
theorem dX7_put_34 : decode cX7_put 34 = .ok (.getfield 15, 3) := by decide +kernel
theorem dX7_put_37 : decode cX7_put 37 = .ok (.iconst 1, 1) := by decide +kernel
theorem dX7_put_38 : decode cX7_put 38 = .ok (.iadd, 1) := by decide +kernel
theorem dX7_put_39 : decode cX7_put 39 = .ok (.putfield 15, 3) := by decide +kernel
theorem dX7_put_4 : decode cX7_put 4 = .ok (.ifCond .lt 44, 3) := by decide +kernel
theorem dX7_put_42 : decode cX7_put 42 = .ok (.iinc 2 (-8), 3) := by decide +kernel
theorem dX7_put_45 : decode cX7_put 45 = .ok (.goto (-42), 3) := by decide +kernel
theorem dX7_put_48 : decode cX7_put 48 = .ok (.return_, 1) := by decide +kernel
theorem dX7_put_7 : decode cX7_put 7 = .ok (.aload_n 0, 1) := by decide +kernel
theorem dX7_put_8 : decode cX7_put 8 = .ok (.getfield 15, 3) := by decide +kernel
def vX7_put : List Cond := .code yX7_put cX7_put 3 none :: ([.fieldLink RX7 15 "HookPier$Reader" "fed" "I", .fieldLink RX7 9 "HookPier$Reader" "text" "[B"] ++ wsX70)
theorem iX7_put_X7 : ∀ w ∈ wsX70, w ∈ vX7_put := fun _ h => List.mem_cons_of_mem _ (List.mem_append_right _ h)
set_option maxHeartbeats 1000000 in
set_option maxRecDepth 100000 in
theorem kX7_put (l : Launch) (dC : Nat → ClassId) (dI : Nat → Nat → Nat) (a0 : Nat) (k1 : Int32) (a2 : Nat) (g3 : Value) (g4 : Value) (g5 : Value) (g6 : Value) (g7 : Value) (g8 : Value) (g9 : Value) (g10 : Value) (g11 : Value) (g12 : Value) (cB13 : ClassId) (f14 : Nat → Int32) (sz : Nat) : Met l yX7_put vX7_put ({ frames := 0, cells := 0, slots := 0, locals := 0 }) (PC (dC, dI) [.ref a0, .int k1] sz [(a0, .inr (5, [.ref a2, .int 0, g3, g4, g5, g6, g7, g8, g9, g10, g11, g12])), (a2, .inl (cB13, 900, .inl f14))] [(cB13, .byte)]) (va_Qv (S := (Nat → Int32)) (fun _ => True) (fun u t => BC (dC, dI) (va_A [(a0, .inr (5, [.ref a2, .int 0, g3, g4, g5, g6, g7, g8, g9, g10, g11, g12])), (a2, .inl (cB13, 900, .inl f14))] sz) [(a0, .inr (5, [.ref a2, .int 4, g3, g4, g5, g6, g7, g8, g9, g10, g11, g12])), (a2, .inl (cB13, 900, .inl u))] [] t) (va_A [(a0, .inr (5, [.ref a2, .int 0, g3, g4, g5, g6, g7, g8, g9, g10, g11, g12])), (a2, .inl (cB13, 900, .inl f14))] sz)) 0 0 (va_A [(a0, .inr (5, [.ref a2, .int 0, g3, g4, g5, g6, g7, g8, g9, g10, g11, g12])), (a2, .inl (cB13, 900, .inl f14))] sz) := by
  refine Met.ofW (cc := cX7_put) (maxL := 3) (ret := none) (by decide) rfl ?_
  intro p e s m args below meth c s₁ B hml hv
  obtain ⟨rfl, hsz, hP, hK, hD0, hN⟩ := hv
  have hx := B.exec
  have hb := B.bytes
  have hr := B.returns
  have hts := atoms_spec (ws := vX7_put) B.pre
  have hown : s.vm.findClass RX7 = some m.cls := findClass_of_methodNamed B.named
  have hlocks := B.notSynchronized
  subst hsz
  have hD := hD0.self (sz := s.heap.size)
  generalize hAe : va_A [(a0, .inr (5, [.ref a2, .int 0, g3, g4, g5, g6, g7, g8, g9, g10, g11, g12])), (a2, .inl (cB13, 900, .inl f14))] s.heap.size = A at hD ⊢
  have hA : ∀ q : Nat, s.heap.size ≤ q → A q := fun q h => by rw [← hAe]; exact Or.inr h
  have hS : va_S A s.heap s.heap [] := va_S.rf
  have hP : va_P (dC, dI) vwCl [(a0, .inr (5, [.ref a2, .int 0, g3, g4, g5, g6, g7, g8, g9, g10, g11, g12])), (a2, .inl (cB13, 900, .inl f14))] s.heap := hP
  have hl := lv_entry ([.ref a0, .int k1]) (n := 3) (Nat.le_of_ble_eq_true rfl)
  rw [lg_entry_eq]
  generalize (lg_sl ([.ref a0, .int k1]) ++ List.replicate (3 - (lg_sl ([.ref a0, .int k1])).length) Slot.unset).toArray = ls at hl ⊢
  have hl : lv_has ls 3 [(0, .ref a0), (1, .int k1)] := hl
  refine lv_bipush (v := 24) hx hb dX7_put_0 (by decide) ?_
  refine lv_istore_n (lv' := [(2, .int 24), (0, .ref a0), (1, .int k1)]) hx hb dX7_put_2 rfl hl (by decide) rfl (fun ls hl => ?_)
  refine lv_iload_n hx hb dX7_put_3 rfl (lv_at hl 0 rfl) ?_
  refine lv_if_lt (tgt := 48) hx hb dX7_put_4 (by decide) (fun c1 => absurd c1 (by decide)) (fun _ => ?_)
  refine lv_aload_n hx hb dX7_put_7 rfl (lv_at hl 1 rfl) ?_
  refine va_get (D := (dC, dI)) (ci := 5) (v := .int 0) (C := RX7) (T := TX7) (N := 12) hx hb hts iX7_put_X7 hown hK hP 0 rfl rfl 1 (by decide) (hts (.fieldLink RX7 15 "HookPier$Reader" "fed" "I") (List.mem_of_getElem? (i := 1) rfl)) (fun _ h9 => h9) rfl dX7_put_8 ?_
  refine lv_aload_n hx hb dX7_put_11 rfl (lv_at hl 1 rfl) ?_
  refine va_get (D := (dC, dI)) (ci := 5) (v := .ref a2) (C := RX7) (T := TX7) (N := 12) hx hb hts iX7_put_X7 hown hK hP 0 rfl rfl 0 (by decide) (hts (.fieldLink RX7 9 "HookPier$Reader" "text" "[B") (List.mem_of_getElem? (i := 2) rfl)) (fun _ h9 => h9) rfl dX7_put_12 ?_
  refine va_alen (v := 900) hx hb hK hP 1 0 rfl rfl rfl dX7_put_15 ?_
  refine lv_icmp_ge (tgt := 48) hx hb dX7_put_16 (by decide) (fun c2 => absurd c2 (by decide)) (fun _ => ?_)
  refine lv_aload_n hx hb dX7_put_19 rfl (lv_at hl 1 rfl) ?_
  refine va_get (D := (dC, dI)) (ci := 5) (v := .ref a2) (C := RX7) (T := TX7) (N := 12) hx hb hts iX7_put_X7 hown hK hP 0 rfl rfl 0 (by decide) (hts (.fieldLink RX7 9 "HookPier$Reader" "text" "[B") (List.mem_of_getElem? (i := 2) rfl)) (fun _ h9 => h9) rfl dX7_put_20 ?_
  refine lv_aload_n hx hb dX7_put_23 rfl (lv_at hl 1 rfl) ?_
  refine va_get (D := (dC, dI)) (ci := 5) (v := .int 0) (C := RX7) (T := TX7) (N := 12) hx hb hts iX7_put_X7 hown hK hP 0 rfl rfl 1 (by decide) (hts (.fieldLink RX7 15 "HookPier$Reader" "fed" "I") (List.mem_of_getElem? (i := 1) rfl)) (fun _ h9 => h9) rfl dX7_put_24 ?_
  refine lv_iload_n hx hb dX7_put_27 rfl (lv_at hl 2 rfl) ?_
  refine lv_iload_n hx hb dX7_put_28 rfl (lv_at hl 0 rfl) ?_
  refine lv_ishr hx hb dX7_put_29 ?_
  refine lv_topi (fun z3 _ => ?_)
  refine lv_i2b hx hb dX7_put_30 rfl ?_
  refine lv_topi (fun z4 _ => ?_)
  refine va_bast hx hb hK hP hD hS 1 0 rfl rfl (by unfold vp_in; decide) dX7_put_31 (fun H locs hP hD hS => ?_)
  have hP : va_P (dC, dI) vwCl [(a0, .inr (5, [.ref a2, .int 0, g3, g4, g5, g6, g7, g8, g9, g10, g11, g12])), (a2, .inl (cB13, 900, .inl (upd f14 (0 : Int32).toNatClampNeg (vp_nar .byte z4))))] H := hP
  have hD : va_D A [(a0, .inr (5, [.ref a2, .int 0, g3, g4, g5, g6, g7, g8, g9, g10, g11, g12])), (a2, .inl (cB13, 900, .inl (upd f14 (0 : Int32).toNatClampNeg (vp_nar .byte z4))))] := hD
  generalize upd f14 (0 : Int32).toNatClampNeg (vp_nar .byte z4) = f5 at hP hD
  refine lv_aload_n hx hb dX7_put_32 rfl (lv_at hl 1 rfl) ?_
  refine lv_dup hx hb dX7_put_33 rfl ?_
  refine va_get (D := (dC, dI)) (ci := 5) (v := .int 0) (C := RX7) (T := TX7) (N := 12) hx hb hts iX7_put_X7 hown hK hP 0 rfl rfl 1 (by decide) (hts (.fieldLink RX7 15 "HookPier$Reader" "fed" "I") (List.mem_of_getElem? (i := 1) rfl)) (fun _ h9 => h9) rfl dX7_put_34 ?_
  refine lv_iconst (v := 1) hx hb dX7_put_37 (by decide) ?_
  refine lv_iadd hx hb dX7_put_38 ?_
  refine lv_topi (fun z6 ez6 => ?_)
  obtain rfl : z6 = 1 := ez6.trans (by decide)
  refine va_put (D := (dC, dI)) (ci := 5) (v := .int 1) (ty := .int) (C := RX7) (T := TX7) (N := 12) hx hb hts iX7_put_X7 tyX7 tyX7_ok nmX7 hown hK hP hD hS 0 rfl rfl 1 (by decide) (hts (.fieldLink RX7 15 "HookPier$Reader" "fed" "I") (List.mem_of_getElem? (i := 1) rfl)) (fun _ h9 => h9) rfl (by decide +kernel) rfl rfl (Nat.le_of_ble_eq_true rfl) dX7_put_39 (fun H locs hP hD hS => ?_)
  have hP : va_P (dC, dI) vwCl [(a0, .inr (5, [.ref a2, .int 1, g3, g4, g5, g6, g7, g8, g9, g10, g11, g12])), (a2, .inl (cB13, 900, .inl f5))] H := hP
  have hD : va_D A [(a0, .inr (5, [.ref a2, .int 1, g3, g4, g5, g6, g7, g8, g9, g10, g11, g12])), (a2, .inl (cB13, 900, .inl f5))] := hD
  refine lv_iinc (v := 16) (lv' := [(2, .int 16), (0, .ref a0), (1, .int k1)]) hx hb dX7_put_42 hl (k := 0) rfl (by decide) (by decide) rfl (fun ls hl => ?_)
  refine lv_goto (tgt := 3) hx hb dX7_put_45 (by decide) ?_
  refine lv_iload_n hx hb dX7_put_3 rfl (lv_at hl 0 rfl) ?_
  refine lv_if_lt (tgt := 48) hx hb dX7_put_4 (by decide) (fun c7 => absurd c7 (by decide)) (fun _ => ?_)
  refine lv_aload_n hx hb dX7_put_7 rfl (lv_at hl 1 rfl) ?_
  refine va_get (D := (dC, dI)) (ci := 5) (v := .int 1) (C := RX7) (T := TX7) (N := 12) hx hb hts iX7_put_X7 hown hK hP 0 rfl rfl 1 (by decide) (hts (.fieldLink RX7 15 "HookPier$Reader" "fed" "I") (List.mem_of_getElem? (i := 1) rfl)) (fun _ h9 => h9) rfl dX7_put_8 ?_
  refine lv_aload_n hx hb dX7_put_11 rfl (lv_at hl 1 rfl) ?_
  refine va_get (D := (dC, dI)) (ci := 5) (v := .ref a2) (C := RX7) (T := TX7) (N := 12) hx hb hts iX7_put_X7 hown hK hP 0 rfl rfl 0 (by decide) (hts (.fieldLink RX7 9 "HookPier$Reader" "text" "[B") (List.mem_of_getElem? (i := 2) rfl)) (fun _ h9 => h9) rfl dX7_put_12 ?_
  refine va_alen (v := 900) hx hb hK hP 1 0 rfl rfl rfl dX7_put_15 ?_
  refine lv_icmp_ge (tgt := 48) hx hb dX7_put_16 (by decide) (fun c8 => absurd c8 (by decide)) (fun _ => ?_)
  refine lv_aload_n hx hb dX7_put_19 rfl (lv_at hl 1 rfl) ?_
  refine va_get (D := (dC, dI)) (ci := 5) (v := .ref a2) (C := RX7) (T := TX7) (N := 12) hx hb hts iX7_put_X7 hown hK hP 0 rfl rfl 0 (by decide) (hts (.fieldLink RX7 9 "HookPier$Reader" "text" "[B") (List.mem_of_getElem? (i := 2) rfl)) (fun _ h9 => h9) rfl dX7_put_20 ?_
  refine lv_aload_n hx hb dX7_put_23 rfl (lv_at hl 1 rfl) ?_
  refine va_get (D := (dC, dI)) (ci := 5) (v := .int 1) (C := RX7) (T := TX7) (N := 12) hx hb hts iX7_put_X7 hown hK hP 0 rfl rfl 1 (by decide) (hts (.fieldLink RX7 15 "HookPier$Reader" "fed" "I") (List.mem_of_getElem? (i := 1) rfl)) (fun _ h9 => h9) rfl dX7_put_24 ?_
  refine lv_iload_n hx hb dX7_put_27 rfl (lv_at hl 2 rfl) ?_
  refine lv_iload_n hx hb dX7_put_28 rfl (lv_at hl 0 rfl) ?_
  refine lv_ishr hx hb dX7_put_29 ?_
  refine lv_topi (fun z9 _ => ?_)
  refine lv_i2b hx hb dX7_put_30 rfl ?_
  refine lv_topi (fun z10 _ => ?_)
  refine va_bast hx hb hK hP hD hS 1 0 rfl rfl (by unfold vp_in; decide) dX7_put_31 (fun H locs hP hD hS => ?_)
  have hP : va_P (dC, dI) vwCl [(a0, .inr (5, [.ref a2, .int 1, g3, g4, g5, g6, g7, g8, g9, g10, g11, g12])), (a2, .inl (cB13, 900, .inl (upd f5 (1 : Int32).toNatClampNeg (vp_nar .byte z10))))] H := hP
  have hD : va_D A [(a0, .inr (5, [.ref a2, .int 1, g3, g4, g5, g6, g7, g8, g9, g10, g11, g12])), (a2, .inl (cB13, 900, .inl (upd f5 (1 : Int32).toNatClampNeg (vp_nar .byte z10))))] := hD
  generalize upd f5 (1 : Int32).toNatClampNeg (vp_nar .byte z10) = f11 at hP hD
  refine lv_aload_n hx hb dX7_put_32 rfl (lv_at hl 1 rfl) ?_
  refine lv_dup hx hb dX7_put_33 rfl ?_
  refine va_get (D := (dC, dI)) (ci := 5) (v := .int 1) (C := RX7) (T := TX7) (N := 12) hx hb hts iX7_put_X7 hown hK hP 0 rfl rfl 1 (by decide) (hts (.fieldLink RX7 15 "HookPier$Reader" "fed" "I") (List.mem_of_getElem? (i := 1) rfl)) (fun _ h9 => h9) rfl dX7_put_34 ?_
  refine lv_iconst (v := 1) hx hb dX7_put_37 (by decide) ?_
  refine lv_iadd hx hb dX7_put_38 ?_
  refine lv_topi (fun z12 ez12 => ?_)
  obtain rfl : z12 = 2 := ez12.trans (by decide)
  refine va_put (D := (dC, dI)) (ci := 5) (v := .int 2) (ty := .int) (C := RX7) (T := TX7) (N := 12) hx hb hts iX7_put_X7 tyX7 tyX7_ok nmX7 hown hK hP hD hS 0 rfl rfl 1 (by decide) (hts (.fieldLink RX7 15 "HookPier$Reader" "fed" "I") (List.mem_of_getElem? (i := 1) rfl)) (fun _ h9 => h9) rfl (by decide +kernel) rfl rfl (Nat.le_of_ble_eq_true rfl) dX7_put_39 (fun H locs hP hD hS => ?_)
  have hP : va_P (dC, dI) vwCl [(a0, .inr (5, [.ref a2, .int 2, g3, g4, g5, g6, g7, g8, g9, g10, g11, g12])), (a2, .inl (cB13, 900, .inl f11))] H := hP
  have hD : va_D A [(a0, .inr (5, [.ref a2, .int 2, g3, g4, g5, g6, g7, g8, g9, g10, g11, g12])), (a2, .inl (cB13, 900, .inl f11))] := hD
  refine lv_iinc (v := 8) (lv' := [(2, .int 8), (0, .ref a0), (1, .int k1)]) hx hb dX7_put_42 hl (k := 0) rfl (by decide) (by decide) rfl (fun ls hl => ?_)
  refine lv_goto (tgt := 3) hx hb dX7_put_45 (by decide) ?_
  refine lv_iload_n hx hb dX7_put_3 rfl (lv_at hl 0 rfl) ?_
  refine lv_if_lt (tgt := 48) hx hb dX7_put_4 (by decide) (fun c13 => absurd c13 (by decide)) (fun _ => ?_)
  refine lv_aload_n hx hb dX7_put_7 rfl (lv_at hl 1 rfl) ?_
  refine va_get (D := (dC, dI)) (ci := 5) (v := .int 2) (C := RX7) (T := TX7) (N := 12) hx hb hts iX7_put_X7 hown hK hP 0 rfl rfl 1 (by decide) (hts (.fieldLink RX7 15 "HookPier$Reader" "fed" "I") (List.mem_of_getElem? (i := 1) rfl)) (fun _ h9 => h9) rfl dX7_put_8 ?_
  refine lv_aload_n hx hb dX7_put_11 rfl (lv_at hl 1 rfl) ?_
  refine va_get (D := (dC, dI)) (ci := 5) (v := .ref a2) (C := RX7) (T := TX7) (N := 12) hx hb hts iX7_put_X7 hown hK hP 0 rfl rfl 0 (by decide) (hts (.fieldLink RX7 9 "HookPier$Reader" "text" "[B") (List.mem_of_getElem? (i := 2) rfl)) (fun _ h9 => h9) rfl dX7_put_12 ?_
  refine va_alen (v := 900) hx hb hK hP 1 0 rfl rfl rfl dX7_put_15 ?_
  refine lv_icmp_ge (tgt := 48) hx hb dX7_put_16 (by decide) (fun c14 => absurd c14 (by decide)) (fun _ => ?_)
  refine lv_aload_n hx hb dX7_put_19 rfl (lv_at hl 1 rfl) ?_
  refine va_get (D := (dC, dI)) (ci := 5) (v := .ref a2) (C := RX7) (T := TX7) (N := 12) hx hb hts iX7_put_X7 hown hK hP 0 rfl rfl 0 (by decide) (hts (.fieldLink RX7 9 "HookPier$Reader" "text" "[B") (List.mem_of_getElem? (i := 2) rfl)) (fun _ h9 => h9) rfl dX7_put_20 ?_
  refine lv_aload_n hx hb dX7_put_23 rfl (lv_at hl 1 rfl) ?_
  refine va_get (D := (dC, dI)) (ci := 5) (v := .int 2) (C := RX7) (T := TX7) (N := 12) hx hb hts iX7_put_X7 hown hK hP 0 rfl rfl 1 (by decide) (hts (.fieldLink RX7 15 "HookPier$Reader" "fed" "I") (List.mem_of_getElem? (i := 1) rfl)) (fun _ h9 => h9) rfl dX7_put_24 ?_
  refine lv_iload_n hx hb dX7_put_27 rfl (lv_at hl 2 rfl) ?_
  refine lv_iload_n hx hb dX7_put_28 rfl (lv_at hl 0 rfl) ?_
  refine lv_ishr hx hb dX7_put_29 ?_
  refine lv_topi (fun z15 _ => ?_)
  refine lv_i2b hx hb dX7_put_30 rfl ?_
  refine lv_topi (fun z16 _ => ?_)
  refine va_bast hx hb hK hP hD hS 1 0 rfl rfl (by unfold vp_in; decide) dX7_put_31 (fun H locs hP hD hS => ?_)
  have hP : va_P (dC, dI) vwCl [(a0, .inr (5, [.ref a2, .int 2, g3, g4, g5, g6, g7, g8, g9, g10, g11, g12])), (a2, .inl (cB13, 900, .inl (upd f11 (2 : Int32).toNatClampNeg (vp_nar .byte z16))))] H := hP
  have hD : va_D A [(a0, .inr (5, [.ref a2, .int 2, g3, g4, g5, g6, g7, g8, g9, g10, g11, g12])), (a2, .inl (cB13, 900, .inl (upd f11 (2 : Int32).toNatClampNeg (vp_nar .byte z16))))] := hD
  generalize upd f11 (2 : Int32).toNatClampNeg (vp_nar .byte z16) = f17 at hP hD
  refine lv_aload_n hx hb dX7_put_32 rfl (lv_at hl 1 rfl) ?_
  refine lv_dup hx hb dX7_put_33 rfl ?_
  refine va_get (D := (dC, dI)) (ci := 5) (v := .int 2) (C := RX7) (T := TX7) (N := 12) hx hb hts iX7_put_X7 hown hK hP 0 rfl rfl 1 (by decide) (hts (.fieldLink RX7 15 "HookPier$Reader" "fed" "I") (List.mem_of_getElem? (i := 1) rfl)) (fun _ h9 => h9) rfl dX7_put_34 ?_
  refine lv_iconst (v := 1) hx hb dX7_put_37 (by decide) ?_
  refine lv_iadd hx hb dX7_put_38 ?_
  refine lv_topi (fun z18 ez18 => ?_)
  obtain rfl : z18 = 3 := ez18.trans (by decide)
  refine va_put (D := (dC, dI)) (ci := 5) (v := .int 3) (ty := .int) (C := RX7) (T := TX7) (N := 12) hx hb hts iX7_put_X7 tyX7 tyX7_ok nmX7 hown hK hP hD hS 0 rfl rfl 1 (by decide) (hts (.fieldLink RX7 15 "HookPier$Reader" "fed" "I") (List.mem_of_getElem? (i := 1) rfl)) (fun _ h9 => h9) rfl (by decide +kernel) rfl rfl (Nat.le_of_ble_eq_true rfl) dX7_put_39 (fun H locs hP hD hS => ?_)
  have hP : va_P (dC, dI) vwCl [(a0, .inr (5, [.ref a2, .int 3, g3, g4, g5, g6, g7, g8, g9, g10, g11, g12])), (a2, .inl (cB13, 900, .inl f17))] H := hP
  have hD : va_D A [(a0, .inr (5, [.ref a2, .int 3, g3, g4, g5, g6, g7, g8, g9, g10, g11, g12])), (a2, .inl (cB13, 900, .inl f17))] := hD
  refine lv_iinc (v := 0) (lv' := [(2, .int 0), (0, .ref a0), (1, .int k1)]) hx hb dX7_put_42 hl (k := 0) rfl (by decide) (by decide) rfl (fun ls hl => ?_)
  refine lv_goto (tgt := 3) hx hb dX7_put_45 (by decide) ?_
  refine lv_iload_n hx hb dX7_put_3 rfl (lv_at hl 0 rfl) ?_
  refine lv_if_lt (tgt := 48) hx hb dX7_put_4 (by decide) (fun c19 => absurd c19 (by decide)) (fun _ => ?_)
  refine lv_aload_n hx hb dX7_put_7 rfl (lv_at hl 1 rfl) ?_
  refine va_get (D := (dC, dI)) (ci := 5) (v := .int 3) (C := RX7) (T := TX7) (N := 12) hx hb hts iX7_put_X7 hown hK hP 0 rfl rfl 1 (by decide) (hts (.fieldLink RX7 15 "HookPier$Reader" "fed" "I") (List.mem_of_getElem? (i := 1) rfl)) (fun _ h9 => h9) rfl dX7_put_8 ?_
  refine lv_aload_n hx hb dX7_put_11 rfl (lv_at hl 1 rfl) ?_
  refine va_get (D := (dC, dI)) (ci := 5) (v := .ref a2) (C := RX7) (T := TX7) (N := 12) hx hb hts iX7_put_X7 hown hK hP 0 rfl rfl 0 (by decide) (hts (.fieldLink RX7 9 "HookPier$Reader" "text" "[B") (List.mem_of_getElem? (i := 2) rfl)) (fun _ h9 => h9) rfl dX7_put_12 ?_
  refine va_alen (v := 900) hx hb hK hP 1 0 rfl rfl rfl dX7_put_15 ?_
  refine lv_icmp_ge (tgt := 48) hx hb dX7_put_16 (by decide) (fun c20 => absurd c20 (by decide)) (fun _ => ?_)
  refine lv_aload_n hx hb dX7_put_19 rfl (lv_at hl 1 rfl) ?_
  refine va_get (D := (dC, dI)) (ci := 5) (v := .ref a2) (C := RX7) (T := TX7) (N := 12) hx hb hts iX7_put_X7 hown hK hP 0 rfl rfl 0 (by decide) (hts (.fieldLink RX7 9 "HookPier$Reader" "text" "[B") (List.mem_of_getElem? (i := 2) rfl)) (fun _ h9 => h9) rfl dX7_put_20 ?_
  refine lv_aload_n hx hb dX7_put_23 rfl (lv_at hl 1 rfl) ?_
  refine va_get (D := (dC, dI)) (ci := 5) (v := .int 3) (C := RX7) (T := TX7) (N := 12) hx hb hts iX7_put_X7 hown hK hP 0 rfl rfl 1 (by decide) (hts (.fieldLink RX7 15 "HookPier$Reader" "fed" "I") (List.mem_of_getElem? (i := 1) rfl)) (fun _ h9 => h9) rfl dX7_put_24 ?_
  refine lv_iload_n hx hb dX7_put_27 rfl (lv_at hl 2 rfl) ?_
  refine lv_iload_n hx hb dX7_put_28 rfl (lv_at hl 0 rfl) ?_
  refine lv_ishr hx hb dX7_put_29 ?_
  refine lv_topi (fun z21 _ => ?_)
  refine lv_i2b hx hb dX7_put_30 rfl ?_
  refine lv_topi (fun z22 _ => ?_)
  refine va_bast hx hb hK hP hD hS 1 0 rfl rfl (by unfold vp_in; decide) dX7_put_31 (fun H locs hP hD hS => ?_)
  have hP : va_P (dC, dI) vwCl [(a0, .inr (5, [.ref a2, .int 3, g3, g4, g5, g6, g7, g8, g9, g10, g11, g12])), (a2, .inl (cB13, 900, .inl (upd f17 (3 : Int32).toNatClampNeg (vp_nar .byte z22))))] H := hP
  have hD : va_D A [(a0, .inr (5, [.ref a2, .int 3, g3, g4, g5, g6, g7, g8, g9, g10, g11, g12])), (a2, .inl (cB13, 900, .inl (upd f17 (3 : Int32).toNatClampNeg (vp_nar .byte z22))))] := hD
  generalize upd f17 (3 : Int32).toNatClampNeg (vp_nar .byte z22) = f23 at hP hD
  refine lv_aload_n hx hb dX7_put_32 rfl (lv_at hl 1 rfl) ?_
  refine lv_dup hx hb dX7_put_33 rfl ?_
  refine va_get (D := (dC, dI)) (ci := 5) (v := .int 3) (C := RX7) (T := TX7) (N := 12) hx hb hts iX7_put_X7 hown hK hP 0 rfl rfl 1 (by decide) (hts (.fieldLink RX7 15 "HookPier$Reader" "fed" "I") (List.mem_of_getElem? (i := 1) rfl)) (fun _ h9 => h9) rfl dX7_put_34 ?_
  refine lv_iconst (v := 1) hx hb dX7_put_37 (by decide) ?_
  refine lv_iadd hx hb dX7_put_38 ?_
  refine lv_topi (fun z24 ez24 => ?_)
  obtain rfl : z24 = 4 := ez24.trans (by decide)
  refine va_put (D := (dC, dI)) (ci := 5) (v := .int 4) (ty := .int) (C := RX7) (T := TX7) (N := 12) hx hb hts iX7_put_X7 tyX7 tyX7_ok nmX7 hown hK hP hD hS 0 rfl rfl 1 (by decide) (hts (.fieldLink RX7 15 "HookPier$Reader" "fed" "I") (List.mem_of_getElem? (i := 1) rfl)) (fun _ h9 => h9) rfl (by decide +kernel) rfl rfl (Nat.le_of_ble_eq_true rfl) dX7_put_39 (fun H locs hP hD hS => ?_)
  have hP : va_P (dC, dI) vwCl [(a0, .inr (5, [.ref a2, .int 4, g3, g4, g5, g6, g7, g8, g9, g10, g11, g12])), (a2, .inl (cB13, 900, .inl f23))] H := hP
  have hD : va_D A [(a0, .inr (5, [.ref a2, .int 4, g3, g4, g5, g6, g7, g8, g9, g10, g11, g12])), (a2, .inl (cB13, 900, .inl f23))] := hD
  refine lv_iinc (v := (-8)) (lv' := [(2, .int (-8)), (0, .ref a0), (1, .int k1)]) hx hb dX7_put_42 hl (k := 0) rfl (by decide) (by decide) rfl (fun ls hl => ?_)
  refine lv_goto (tgt := 3) hx hb dX7_put_45 (by decide) ?_
  refine lv_iload_n hx hb dX7_put_3 rfl (lv_at hl 0 rfl) ?_
  refine lv_if_lt (tgt := 48) hx hb dX7_put_4 (by decide) (fun _ => ?_) (fun c25 => absurd c25 (by decide))
  have hP9 := hP.sub (ws' := [(a0, .inr (5, [.ref a2, .int 4, g3, g4, g5, g6, g7, g8, g9, g10, g11, g12])), (a2, .inl (cB13, 900, .inl f23))]) [0, 1] rfl
  have hD9 := hD.sub (ws' := [(a0, .inr (5, [.ref a2, .int 4, g3, g4, g5, g6, g7, g8, g9, g10, g11, g12])), (a2, .inl (cB13, 900, .inl f23))]) [0, 1] (by decide) rfl
  have hK9 := hK.sub (tys' := []) [] rfl
  exact W.vret hx hb hr (fun t ht hW => ⟨⟨f23, rfl, trivial, by rw [ht]; exact hP9, va_K.moved hW.alike hK9, hD9⟩, hS.F ht⟩) hS.2.2 dX7_put_48
def vX7_put_1 : List Cond := .code yX7_put cX7_put 3 none :: ([.fieldLink RX7 15 "HookPier$Reader" "fed" "I", .fieldLink RX7 9 "HookPier$Reader" "text" "[B"] ++ wsX70)
theorem iX7_put_1_X7 : ∀ w ∈ wsX70, w ∈ vX7_put_1 := fun _ h => List.mem_cons_of_mem _ (List.mem_append_right _ h)
set_option maxHeartbeats 1000000 in
set_option maxRecDepth 100000 in
theorem kX7_put_1 (l : Launch) (dC : Nat → ClassId) (dI : Nat → Nat → Nat) (a0 : Nat) (k1 : Int32) (a2 : Nat) (g3 : Value) (g4 : Value) (g5 : Value) (g6 : Value) (g7 : Value) (g8 : Value) (g9 : Value) (g10 : Value) (g11 : Value) (g12 : Value) (cB13 : ClassId) (f14 : Nat → Int32) (sz : Nat) : Met l yX7_put vX7_put_1 ({ frames := 0, cells := 0, slots := 0, locals := 0 }) (PC (dC, dI) [.ref a0, .int k1] sz [(a0, .inr (5, [.ref a2, .int 4, g3, g4, g5, g6, g7, g8, g9, g10, g11, g12])), (a2, .inl (cB13, 900, .inl f14))] [(cB13, .byte)]) (va_Qv (S := (Nat → Int32)) (fun _ => True) (fun u t => BC (dC, dI) (va_A [(a0, .inr (5, [.ref a2, .int 4, g3, g4, g5, g6, g7, g8, g9, g10, g11, g12])), (a2, .inl (cB13, 900, .inl f14))] sz) [(a0, .inr (5, [.ref a2, .int 8, g3, g4, g5, g6, g7, g8, g9, g10, g11, g12])), (a2, .inl (cB13, 900, .inl u))] [] t) (va_A [(a0, .inr (5, [.ref a2, .int 4, g3, g4, g5, g6, g7, g8, g9, g10, g11, g12])), (a2, .inl (cB13, 900, .inl f14))] sz)) 0 0 (va_A [(a0, .inr (5, [.ref a2, .int 4, g3, g4, g5, g6, g7, g8, g9, g10, g11, g12])), (a2, .inl (cB13, 900, .inl f14))] sz) := by
  refine Met.ofW (cc := cX7_put) (maxL := 3) (ret := none) (by decide) rfl ?_
  intro p e s m args below meth c s₁ B hml hv
  obtain ⟨rfl, hsz, hP, hK, hD0, hN⟩ := hv
  have hx := B.exec
  have hb := B.bytes
  have hr := B.returns
  have hts := atoms_spec (ws := vX7_put_1) B.pre
  have hown : s.vm.findClass RX7 = some m.cls := findClass_of_methodNamed B.named
  have hlocks := B.notSynchronized
  subst hsz
  have hD := hD0.self (sz := s.heap.size)
  generalize hAe : va_A [(a0, .inr (5, [.ref a2, .int 4, g3, g4, g5, g6, g7, g8, g9, g10, g11, g12])), (a2, .inl (cB13, 900, .inl f14))] s.heap.size = A at hD ⊢
  have hA : ∀ q : Nat, s.heap.size ≤ q → A q := fun q h => by rw [← hAe]; exact Or.inr h
  have hS : va_S A s.heap s.heap [] := va_S.rf
  have hP : va_P (dC, dI) vwCl [(a0, .inr (5, [.ref a2, .int 4, g3, g4, g5, g6, g7, g8, g9, g10, g11, g12])), (a2, .inl (cB13, 900, .inl f14))] s.heap := hP
  have hl := lv_entry ([.ref a0, .int k1]) (n := 3) (Nat.le_of_ble_eq_true rfl)
  rw [lg_entry_eq]
  generalize (lg_sl ([.ref a0, .int k1]) ++ List.replicate (3 - (lg_sl ([.ref a0, .int k1])).length) Slot.unset).toArray = ls at hl ⊢
  have hl : lv_has ls 3 [(0, .ref a0), (1, .int k1)] := hl
  refine lv_bipush (v := 24) hx hb dX7_put_0 (by decide) ?_
  refine lv_istore_n (lv' := [(2, .int 24), (0, .ref a0), (1, .int k1)]) hx hb dX7_put_2 rfl hl (by decide) rfl (fun ls hl => ?_)
  refine lv_iload_n hx hb dX7_put_3 rfl (lv_at hl 0 rfl) ?_
  refine lv_if_lt (tgt := 48) hx hb dX7_put_4 (by decide) (fun c1 => absurd c1 (by decide)) (fun _ => ?_)
  refine lv_aload_n hx hb dX7_put_7 rfl (lv_at hl 1 rfl) ?_
  refine va_get (D := (dC, dI)) (ci := 5) (v := .int 4) (C := RX7) (T := TX7) (N := 12) hx hb hts iX7_put_1_X7 hown hK hP 0 rfl rfl 1 (by decide) (hts (.fieldLink RX7 15 "HookPier$Reader" "fed" "I") (List.mem_of_getElem? (i := 1) rfl)) (fun _ h9 => h9) rfl dX7_put_8 ?_
  refine lv_aload_n hx hb dX7_put_11 rfl (lv_at hl 1 rfl) ?_
  refine va_get (D := (dC, dI)) (ci := 5) (v := .ref a2) (C := RX7) (T := TX7) (N := 12) hx hb hts iX7_put_1_X7 hown hK hP 0 rfl rfl 0 (by decide) (hts (.fieldLink RX7 9 "HookPier$Reader" "text" "[B") (List.mem_of_getElem? (i := 2) rfl)) (fun _ h9 => h9) rfl dX7_put_12 ?_
  refine va_alen (v := 900) hx hb hK hP 1 0 rfl rfl rfl dX7_put_15 ?_
  refine lv_icmp_ge (tgt := 48) hx hb dX7_put_16 (by decide) (fun c2 => absurd c2 (by decide)) (fun _ => ?_)
  refine lv_aload_n hx hb dX7_put_19 rfl (lv_at hl 1 rfl) ?_
  refine va_get (D := (dC, dI)) (ci := 5) (v := .ref a2) (C := RX7) (T := TX7) (N := 12) hx hb hts iX7_put_1_X7 hown hK hP 0 rfl rfl 0 (by decide) (hts (.fieldLink RX7 9 "HookPier$Reader" "text" "[B") (List.mem_of_getElem? (i := 2) rfl)) (fun _ h9 => h9) rfl dX7_put_20 ?_
  refine lv_aload_n hx hb dX7_put_23 rfl (lv_at hl 1 rfl) ?_
  refine va_get (D := (dC, dI)) (ci := 5) (v := .int 4) (C := RX7) (T := TX7) (N := 12) hx hb hts iX7_put_1_X7 hown hK hP 0 rfl rfl 1 (by decide) (hts (.fieldLink RX7 15 "HookPier$Reader" "fed" "I") (List.mem_of_getElem? (i := 1) rfl)) (fun _ h9 => h9) rfl dX7_put_24 ?_
  refine lv_iload_n hx hb dX7_put_27 rfl (lv_at hl 2 rfl) ?_
  refine lv_iload_n hx hb dX7_put_28 rfl (lv_at hl 0 rfl) ?_
  refine lv_ishr hx hb dX7_put_29 ?_
  refine lv_topi (fun z3 _ => ?_)
  refine lv_i2b hx hb dX7_put_30 rfl ?_
  refine lv_topi (fun z4 _ => ?_)
  refine va_bast hx hb hK hP hD hS 1 0 rfl rfl (by unfold vp_in; decide) dX7_put_31 (fun H locs hP hD hS => ?_)
  have hP : va_P (dC, dI) vwCl [(a0, .inr (5, [.ref a2, .int 4, g3, g4, g5, g6, g7, g8, g9, g10, g11, g12])), (a2, .inl (cB13, 900, .inl (upd f14 (4 : Int32).toNatClampNeg (vp_nar .byte z4))))] H := hP
  have hD : va_D A [(a0, .inr (5, [.ref a2, .int 4, g3, g4, g5, g6, g7, g8, g9, g10, g11, g12])), (a2, .inl (cB13, 900, .inl (upd f14 (4 : Int32).toNatClampNeg (vp_nar .byte z4))))] := hD
  generalize upd f14 (4 : Int32).toNatClampNeg (vp_nar .byte z4) = f5 at hP hD
  refine lv_aload_n hx hb dX7_put_32 rfl (lv_at hl 1 rfl) ?_
  refine lv_dup hx hb dX7_put_33 rfl ?_
  refine va_get (D := (dC, dI)) (ci := 5) (v := .int 4) (C := RX7) (T := TX7) (N := 12) hx hb hts iX7_put_1_X7 hown hK hP 0 rfl rfl 1 (by decide) (hts (.fieldLink RX7 15 "HookPier$Reader" "fed" "I") (List.mem_of_getElem? (i := 1) rfl)) (fun _ h9 => h9) rfl dX7_put_34 ?_
  refine lv_iconst (v := 1) hx hb dX7_put_37 (by decide) ?_
  refine lv_iadd hx hb dX7_put_38 ?_
  refine lv_topi (fun z6 ez6 => ?_)
  obtain rfl : z6 = 5 := ez6.trans (by decide)
  refine va_put (D := (dC, dI)) (ci := 5) (v := .int 5) (ty := .int) (C := RX7) (T := TX7) (N := 12) hx hb hts iX7_put_1_X7 tyX7 tyX7_ok nmX7 hown hK hP hD hS 0 rfl rfl 1 (by decide) (hts (.fieldLink RX7 15 "HookPier$Reader" "fed" "I") (List.mem_of_getElem? (i := 1) rfl)) (fun _ h9 => h9) rfl (by decide +kernel) rfl rfl (Nat.le_of_ble_eq_true rfl) dX7_put_39 (fun H locs hP hD hS => ?_)
  have hP : va_P (dC, dI) vwCl [(a0, .inr (5, [.ref a2, .int 5, g3, g4, g5, g6, g7, g8, g9, g10, g11, g12])), (a2, .inl (cB13, 900, .inl f5))] H := hP
  have hD : va_D A [(a0, .inr (5, [.ref a2, .int 5, g3, g4, g5, g6, g7, g8, g9, g10, g11, g12])), (a2, .inl (cB13, 900, .inl f5))] := hD
  refine lv_iinc (v := 16) (lv' := [(2, .int 16), (0, .ref a0), (1, .int k1)]) hx hb dX7_put_42 hl (k := 0) rfl (by decide) (by decide) rfl (fun ls hl => ?_)
  refine lv_goto (tgt := 3) hx hb dX7_put_45 (by decide) ?_
  refine lv_iload_n hx hb dX7_put_3 rfl (lv_at hl 0 rfl) ?_
  refine lv_if_lt (tgt := 48) hx hb dX7_put_4 (by decide) (fun c7 => absurd c7 (by decide)) (fun _ => ?_)
  refine lv_aload_n hx hb dX7_put_7 rfl (lv_at hl 1 rfl) ?_
  refine va_get (D := (dC, dI)) (ci := 5) (v := .int 5) (C := RX7) (T := TX7) (N := 12) hx hb hts iX7_put_1_X7 hown hK hP 0 rfl rfl 1 (by decide) (hts (.fieldLink RX7 15 "HookPier$Reader" "fed" "I") (List.mem_of_getElem? (i := 1) rfl)) (fun _ h9 => h9) rfl dX7_put_8 ?_
  refine lv_aload_n hx hb dX7_put_11 rfl (lv_at hl 1 rfl) ?_
  refine va_get (D := (dC, dI)) (ci := 5) (v := .ref a2) (C := RX7) (T := TX7) (N := 12) hx hb hts iX7_put_1_X7 hown hK hP 0 rfl rfl 0 (by decide) (hts (.fieldLink RX7 9 "HookPier$Reader" "text" "[B") (List.mem_of_getElem? (i := 2) rfl)) (fun _ h9 => h9) rfl dX7_put_12 ?_
  refine va_alen (v := 900) hx hb hK hP 1 0 rfl rfl rfl dX7_put_15 ?_
  refine lv_icmp_ge (tgt := 48) hx hb dX7_put_16 (by decide) (fun c8 => absurd c8 (by decide)) (fun _ => ?_)
  refine lv_aload_n hx hb dX7_put_19 rfl (lv_at hl 1 rfl) ?_
  refine va_get (D := (dC, dI)) (ci := 5) (v := .ref a2) (C := RX7) (T := TX7) (N := 12) hx hb hts iX7_put_1_X7 hown hK hP 0 rfl rfl 0 (by decide) (hts (.fieldLink RX7 9 "HookPier$Reader" "text" "[B") (List.mem_of_getElem? (i := 2) rfl)) (fun _ h9 => h9) rfl dX7_put_20 ?_
  refine lv_aload_n hx hb dX7_put_23 rfl (lv_at hl 1 rfl) ?_
  refine va_get (D := (dC, dI)) (ci := 5) (v := .int 5) (C := RX7) (T := TX7) (N := 12) hx hb hts iX7_put_1_X7 hown hK hP 0 rfl rfl 1 (by decide) (hts (.fieldLink RX7 15 "HookPier$Reader" "fed" "I") (List.mem_of_getElem? (i := 1) rfl)) (fun _ h9 => h9) rfl dX7_put_24 ?_
  refine lv_iload_n hx hb dX7_put_27 rfl (lv_at hl 2 rfl) ?_
  refine lv_iload_n hx hb dX7_put_28 rfl (lv_at hl 0 rfl) ?_
  refine lv_ishr hx hb dX7_put_29 ?_
  refine lv_topi (fun z9 _ => ?_)
  refine lv_i2b hx hb dX7_put_30 rfl ?_
  refine lv_topi (fun z10 _ => ?_)
  refine va_bast hx hb hK hP hD hS 1 0 rfl rfl (by unfold vp_in; decide) dX7_put_31 (fun H locs hP hD hS => ?_)
  have hP : va_P (dC, dI) vwCl [(a0, .inr (5, [.ref a2, .int 5, g3, g4, g5, g6, g7, g8, g9, g10, g11, g12])), (a2, .inl (cB13, 900, .inl (upd f5 (5 : Int32).toNatClampNeg (vp_nar .byte z10))))] H := hP
  have hD : va_D A [(a0, .inr (5, [.ref a2, .int 5, g3, g4, g5, g6, g7, g8, g9, g10, g11, g12])), (a2, .inl (cB13, 900, .inl (upd f5 (5 : Int32).toNatClampNeg (vp_nar .byte z10))))] := hD
  generalize upd f5 (5 : Int32).toNatClampNeg (vp_nar .byte z10) = f11 at hP hD
  refine lv_aload_n hx hb dX7_put_32 rfl (lv_at hl 1 rfl) ?_
  refine lv_dup hx hb dX7_put_33 rfl ?_
  refine va_get (D := (dC, dI)) (ci := 5) (v := .int 5) (C := RX7) (T := TX7) (N := 12) hx hb hts iX7_put_1_X7 hown hK hP 0 rfl rfl 1 (by decide) (hts (.fieldLink RX7 15 "HookPier$Reader" "fed" "I") (List.mem_of_getElem? (i := 1) rfl)) (fun _ h9 => h9) rfl dX7_put_34 ?_
  refine lv_iconst (v := 1) hx hb dX7_put_37 (by decide) ?_
  refine lv_iadd hx hb dX7_put_38 ?_
  refine lv_topi (fun z12 ez12 => ?_)
  obtain rfl : z12 = 6 := ez12.trans (by decide)
  refine va_put (D := (dC, dI)) (ci := 5) (v := .int 6) (ty := .int) (C := RX7) (T := TX7) (N := 12) hx hb hts iX7_put_1_X7 tyX7 tyX7_ok nmX7 hown hK hP hD hS 0 rfl rfl 1 (by decide) (hts (.fieldLink RX7 15 "HookPier$Reader" "fed" "I") (List.mem_of_getElem? (i := 1) rfl)) (fun _ h9 => h9) rfl (by decide +kernel) rfl rfl (Nat.le_of_ble_eq_true rfl) dX7_put_39 (fun H locs hP hD hS => ?_)
  have hP : va_P (dC, dI) vwCl [(a0, .inr (5, [.ref a2, .int 6, g3, g4, g5, g6, g7, g8, g9, g10, g11, g12])), (a2, .inl (cB13, 900, .inl f11))] H := hP
  have hD : va_D A [(a0, .inr (5, [.ref a2, .int 6, g3, g4, g5, g6, g7, g8, g9, g10, g11, g12])), (a2, .inl (cB13, 900, .inl f11))] := hD
  refine lv_iinc (v := 8) (lv' := [(2, .int 8), (0, .ref a0), (1, .int k1)]) hx hb dX7_put_42 hl (k := 0) rfl (by decide) (by decide) rfl (fun ls hl => ?_)
  refine lv_goto (tgt := 3) hx hb dX7_put_45 (by decide) ?_
  refine lv_iload_n hx hb dX7_put_3 rfl (lv_at hl 0 rfl) ?_
  refine lv_if_lt (tgt := 48) hx hb dX7_put_4 (by decide) (fun c13 => absurd c13 (by decide)) (fun _ => ?_)
  refine lv_aload_n hx hb dX7_put_7 rfl (lv_at hl 1 rfl) ?_
  refine va_get (D := (dC, dI)) (ci := 5) (v := .int 6) (C := RX7) (T := TX7) (N := 12) hx hb hts iX7_put_1_X7 hown hK hP 0 rfl rfl 1 (by decide) (hts (.fieldLink RX7 15 "HookPier$Reader" "fed" "I") (List.mem_of_getElem? (i := 1) rfl)) (fun _ h9 => h9) rfl dX7_put_8 ?_
  refine lv_aload_n hx hb dX7_put_11 rfl (lv_at hl 1 rfl) ?_
  refine va_get (D := (dC, dI)) (ci := 5) (v := .ref a2) (C := RX7) (T := TX7) (N := 12) hx hb hts iX7_put_1_X7 hown hK hP 0 rfl rfl 0 (by decide) (hts (.fieldLink RX7 9 "HookPier$Reader" "text" "[B") (List.mem_of_getElem? (i := 2) rfl)) (fun _ h9 => h9) rfl dX7_put_12 ?_
  refine va_alen (v := 900) hx hb hK hP 1 0 rfl rfl rfl dX7_put_15 ?_
  refine lv_icmp_ge (tgt := 48) hx hb dX7_put_16 (by decide) (fun c14 => absurd c14 (by decide)) (fun _ => ?_)
  refine lv_aload_n hx hb dX7_put_19 rfl (lv_at hl 1 rfl) ?_
  refine va_get (D := (dC, dI)) (ci := 5) (v := .ref a2) (C := RX7) (T := TX7) (N := 12) hx hb hts iX7_put_1_X7 hown hK hP 0 rfl rfl 0 (by decide) (hts (.fieldLink RX7 9 "HookPier$Reader" "text" "[B") (List.mem_of_getElem? (i := 2) rfl)) (fun _ h9 => h9) rfl dX7_put_20 ?_
  refine lv_aload_n hx hb dX7_put_23 rfl (lv_at hl 1 rfl) ?_
  refine va_get (D := (dC, dI)) (ci := 5) (v := .int 6) (C := RX7) (T := TX7) (N := 12) hx hb hts iX7_put_1_X7 hown hK hP 0 rfl rfl 1 (by decide) (hts (.fieldLink RX7 15 "HookPier$Reader" "fed" "I") (List.mem_of_getElem? (i := 1) rfl)) (fun _ h9 => h9) rfl dX7_put_24 ?_
  refine lv_iload_n hx hb dX7_put_27 rfl (lv_at hl 2 rfl) ?_
  refine lv_iload_n hx hb dX7_put_28 rfl (lv_at hl 0 rfl) ?_
  refine lv_ishr hx hb dX7_put_29 ?_
  refine lv_topi (fun z15 _ => ?_)
  refine lv_i2b hx hb dX7_put_30 rfl ?_
  refine lv_topi (fun z16 _ => ?_)
  refine va_bast hx hb hK hP hD hS 1 0 rfl rfl (by unfold vp_in; decide) dX7_put_31 (fun H locs hP hD hS => ?_)
  have hP : va_P (dC, dI) vwCl [(a0, .inr (5, [.ref a2, .int 6, g3, g4, g5, g6, g7, g8, g9, g10, g11, g12])), (a2, .inl (cB13, 900, .inl (upd f11 (6 : Int32).toNatClampNeg (vp_nar .byte z16))))] H := hP
  have hD : va_D A [(a0, .inr (5, [.ref a2, .int 6, g3, g4, g5, g6, g7, g8, g9, g10, g11, g12])), (a2, .inl (cB13, 900, .inl (upd f11 (6 : Int32).toNatClampNeg (vp_nar .byte z16))))] := hD
  generalize upd f11 (6 : Int32).toNatClampNeg (vp_nar .byte z16) = f17 at hP hD
  refine lv_aload_n hx hb dX7_put_32 rfl (lv_at hl 1 rfl) ?_
  refine lv_dup hx hb dX7_put_33 rfl ?_
  refine va_get (D := (dC, dI)) (ci := 5) (v := .int 6) (C := RX7) (T := TX7) (N := 12) hx hb hts iX7_put_1_X7 hown hK hP 0 rfl rfl 1 (by decide) (hts (.fieldLink RX7 15 "HookPier$Reader" "fed" "I") (List.mem_of_getElem? (i := 1) rfl)) (fun _ h9 => h9) rfl dX7_put_34 ?_
  refine lv_iconst (v := 1) hx hb dX7_put_37 (by decide) ?_
  refine lv_iadd hx hb dX7_put_38 ?_
  refine lv_topi (fun z18 ez18 => ?_)
  obtain rfl : z18 = 7 := ez18.trans (by decide)
  refine va_put (D := (dC, dI)) (ci := 5) (v := .int 7) (ty := .int) (C := RX7) (T := TX7) (N := 12) hx hb hts iX7_put_1_X7 tyX7 tyX7_ok nmX7 hown hK hP hD hS 0 rfl rfl 1 (by decide) (hts (.fieldLink RX7 15 "HookPier$Reader" "fed" "I") (List.mem_of_getElem? (i := 1) rfl)) (fun _ h9 => h9) rfl (by decide +kernel) rfl rfl (Nat.le_of_ble_eq_true rfl) dX7_put_39 (fun H locs hP hD hS => ?_)
  have hP : va_P (dC, dI) vwCl [(a0, .inr (5, [.ref a2, .int 7, g3, g4, g5, g6, g7, g8, g9, g10, g11, g12])), (a2, .inl (cB13, 900, .inl f17))] H := hP
  have hD : va_D A [(a0, .inr (5, [.ref a2, .int 7, g3, g4, g5, g6, g7, g8, g9, g10, g11, g12])), (a2, .inl (cB13, 900, .inl f17))] := hD
  refine lv_iinc (v := 0) (lv' := [(2, .int 0), (0, .ref a0), (1, .int k1)]) hx hb dX7_put_42 hl (k := 0) rfl (by decide) (by decide) rfl (fun ls hl => ?_)
  refine lv_goto (tgt := 3) hx hb dX7_put_45 (by decide) ?_
  refine lv_iload_n hx hb dX7_put_3 rfl (lv_at hl 0 rfl) ?_
  refine lv_if_lt (tgt := 48) hx hb dX7_put_4 (by decide) (fun c19 => absurd c19 (by decide)) (fun _ => ?_)
  refine lv_aload_n hx hb dX7_put_7 rfl (lv_at hl 1 rfl) ?_
  refine va_get (D := (dC, dI)) (ci := 5) (v := .int 7) (C := RX7) (T := TX7) (N := 12) hx hb hts iX7_put_1_X7 hown hK hP 0 rfl rfl 1 (by decide) (hts (.fieldLink RX7 15 "HookPier$Reader" "fed" "I") (List.mem_of_getElem? (i := 1) rfl)) (fun _ h9 => h9) rfl dX7_put_8 ?_
  refine lv_aload_n hx hb dX7_put_11 rfl (lv_at hl 1 rfl) ?_
  refine va_get (D := (dC, dI)) (ci := 5) (v := .ref a2) (C := RX7) (T := TX7) (N := 12) hx hb hts iX7_put_1_X7 hown hK hP 0 rfl rfl 0 (by decide) (hts (.fieldLink RX7 9 "HookPier$Reader" "text" "[B") (List.mem_of_getElem? (i := 2) rfl)) (fun _ h9 => h9) rfl dX7_put_12 ?_
  refine va_alen (v := 900) hx hb hK hP 1 0 rfl rfl rfl dX7_put_15 ?_
  refine lv_icmp_ge (tgt := 48) hx hb dX7_put_16 (by decide) (fun c20 => absurd c20 (by decide)) (fun _ => ?_)
  refine lv_aload_n hx hb dX7_put_19 rfl (lv_at hl 1 rfl) ?_
  refine va_get (D := (dC, dI)) (ci := 5) (v := .ref a2) (C := RX7) (T := TX7) (N := 12) hx hb hts iX7_put_1_X7 hown hK hP 0 rfl rfl 0 (by decide) (hts (.fieldLink RX7 9 "HookPier$Reader" "text" "[B") (List.mem_of_getElem? (i := 2) rfl)) (fun _ h9 => h9) rfl dX7_put_20 ?_
  refine lv_aload_n hx hb dX7_put_23 rfl (lv_at hl 1 rfl) ?_
  refine va_get (D := (dC, dI)) (ci := 5) (v := .int 7) (C := RX7) (T := TX7) (N := 12) hx hb hts iX7_put_1_X7 hown hK hP 0 rfl rfl 1 (by decide) (hts (.fieldLink RX7 15 "HookPier$Reader" "fed" "I") (List.mem_of_getElem? (i := 1) rfl)) (fun _ h9 => h9) rfl dX7_put_24 ?_
  refine lv_iload_n hx hb dX7_put_27 rfl (lv_at hl 2 rfl) ?_
  refine lv_iload_n hx hb dX7_put_28 rfl (lv_at hl 0 rfl) ?_
  refine lv_ishr hx hb dX7_put_29 ?_
  refine lv_topi (fun z21 _ => ?_)
  refine lv_i2b hx hb dX7_put_30 rfl ?_
  refine lv_topi (fun z22 _ => ?_)
  refine va_bast hx hb hK hP hD hS 1 0 rfl rfl (by unfold vp_in; decide) dX7_put_31 (fun H locs hP hD hS => ?_)
  have hP : va_P (dC, dI) vwCl [(a0, .inr (5, [.ref a2, .int 7, g3, g4, g5, g6, g7, g8, g9, g10, g11, g12])), (a2, .inl (cB13, 900, .inl (upd f17 (7 : Int32).toNatClampNeg (vp_nar .byte z22))))] H := hP
  have hD : va_D A [(a0, .inr (5, [.ref a2, .int 7, g3, g4, g5, g6, g7, g8, g9, g10, g11, g12])), (a2, .inl (cB13, 900, .inl (upd f17 (7 : Int32).toNatClampNeg (vp_nar .byte z22))))] := hD
  generalize upd f17 (7 : Int32).toNatClampNeg (vp_nar .byte z22) = f23 at hP hD
  refine lv_aload_n hx hb dX7_put_32 rfl (lv_at hl 1 rfl) ?_
  refine lv_dup hx hb dX7_put_33 rfl ?_
  refine va_get (D := (dC, dI)) (ci := 5) (v := .int 7) (C := RX7) (T := TX7) (N := 12) hx hb hts iX7_put_1_X7 hown hK hP 0 rfl rfl 1 (by decide) (hts (.fieldLink RX7 15 "HookPier$Reader" "fed" "I") (List.mem_of_getElem? (i := 1) rfl)) (fun _ h9 => h9) rfl dX7_put_34 ?_
  refine lv_iconst (v := 1) hx hb dX7_put_37 (by decide) ?_
  refine lv_iadd hx hb dX7_put_38 ?_
  refine lv_topi (fun z24 ez24 => ?_)
  obtain rfl : z24 = 8 := ez24.trans (by decide)
  refine va_put (D := (dC, dI)) (ci := 5) (v := .int 8) (ty := .int) (C := RX7) (T := TX7) (N := 12) hx hb hts iX7_put_1_X7 tyX7 tyX7_ok nmX7 hown hK hP hD hS 0 rfl rfl 1 (by decide) (hts (.fieldLink RX7 15 "HookPier$Reader" "fed" "I") (List.mem_of_getElem? (i := 1) rfl)) (fun _ h9 => h9) rfl (by decide +kernel) rfl rfl (Nat.le_of_ble_eq_true rfl) dX7_put_39 (fun H locs hP hD hS => ?_)
  have hP : va_P (dC, dI) vwCl [(a0, .inr (5, [.ref a2, .int 8, g3, g4, g5, g6, g7, g8, g9, g10, g11, g12])), (a2, .inl (cB13, 900, .inl f23))] H := hP
  have hD : va_D A [(a0, .inr (5, [.ref a2, .int 8, g3, g4, g5, g6, g7, g8, g9, g10, g11, g12])), (a2, .inl (cB13, 900, .inl f23))] := hD
  refine lv_iinc (v := (-8)) (lv' := [(2, .int (-8)), (0, .ref a0), (1, .int k1)]) hx hb dX7_put_42 hl (k := 0) rfl (by decide) (by decide) rfl (fun ls hl => ?_)
  refine lv_goto (tgt := 3) hx hb dX7_put_45 (by decide) ?_
  refine lv_iload_n hx hb dX7_put_3 rfl (lv_at hl 0 rfl) ?_
  refine lv_if_lt (tgt := 48) hx hb dX7_put_4 (by decide) (fun _ => ?_) (fun c25 => absurd c25 (by decide))
  have hP9 := hP.sub (ws' := [(a0, .inr (5, [.ref a2, .int 8, g3, g4, g5, g6, g7, g8, g9, g10, g11, g12])), (a2, .inl (cB13, 900, .inl f23))]) [0, 1] rfl
  have hD9 := hD.sub (ws' := [(a0, .inr (5, [.ref a2, .int 8, g3, g4, g5, g6, g7, g8, g9, g10, g11, g12])), (a2, .inl (cB13, 900, .inl f23))]) [0, 1] (by decide) rfl
  have hK9 := hK.sub (tys' := []) [] rfl
  exact W.vret hx hb hr (fun t ht hW => ⟨⟨f23, rfl, trivial, by rw [ht]; exact hP9, va_K.moved hW.alike hK9, hD9⟩, hS.F ht⟩) hS.2.2 dX7_put_48
def vX7_put_2 : List Cond := .code yX7_put cX7_put 3 none :: ([.fieldLink RX7 15 "HookPier$Reader" "fed" "I", .fieldLink RX7 9 "HookPier$Reader" "text" "[B"] ++ wsX70)
theorem iX7_put_2_X7 : ∀ w ∈ wsX70, w ∈ vX7_put_2 := fun _ h => List.mem_cons_of_mem _ (List.mem_append_right _ h)
set_option maxHeartbeats 1000000 in
set_option maxRecDepth 100000 in
theorem kX7_put_2 (l : Launch) (dC : Nat → ClassId) (dI : Nat → Nat → Nat) (a0 : Nat) (k1 : Int32) (a2 : Nat) (g3 : Value) (g4 : Value) (g5 : Value) (g6 : Value) (g7 : Value) (g8 : Value) (g9 : Value) (g10 : Value) (g11 : Value) (g12 : Value) (cB13 : ClassId) (f14 : Nat → Int32) (sz : Nat) : Met l yX7_put vX7_put_2 ({ frames := 0, cells := 0, slots := 0, locals := 0 }) (PC (dC, dI) [.ref a0, .int k1] sz [(a0, .inr (5, [.ref a2, .int 8, g3, g4, g5, g6, g7, g8, g9, g10, g11, g12])), (a2, .inl (cB13, 900, .inl f14))] [(cB13, .byte)]) (va_Qv (S := (Nat → Int32)) (fun _ => True) (fun u t => BC (dC, dI) (va_A [(a0, .inr (5, [.ref a2, .int 8, g3, g4, g5, g6, g7, g8, g9, g10, g11, g12])), (a2, .inl (cB13, 900, .inl f14))] sz) [(a0, .inr (5, [.ref a2, .int 12, g3, g4, g5, g6, g7, g8, g9, g10, g11, g12])), (a2, .inl (cB13, 900, .inl u))] [] t) (va_A [(a0, .inr (5, [.ref a2, .int 8, g3, g4, g5, g6, g7, g8, g9, g10, g11, g12])), (a2, .inl (cB13, 900, .inl f14))] sz)) 0 0 (va_A [(a0, .inr (5, [.ref a2, .int 8, g3, g4, g5, g6, g7, g8, g9, g10, g11, g12])), (a2, .inl (cB13, 900, .inl f14))] sz) := by
  refine Met.ofW (cc := cX7_put) (maxL := 3) (ret := none) (by decide) rfl ?_
  intro p e s m args below meth c s₁ B hml hv
  obtain ⟨rfl, hsz, hP, hK, hD0, hN⟩ := hv
  have hx := B.exec
  have hb := B.bytes
  have hr := B.returns
  have hts := atoms_spec (ws := vX7_put_2) B.pre
  have hown : s.vm.findClass RX7 = some m.cls := findClass_of_methodNamed B.named
  have hlocks := B.notSynchronized
  subst hsz
  have hD := hD0.self (sz := s.heap.size)
  generalize hAe : va_A [(a0, .inr (5, [.ref a2, .int 8, g3, g4, g5, g6, g7, g8, g9, g10, g11, g12])), (a2, .inl (cB13, 900, .inl f14))] s.heap.size = A at hD ⊢
  have hA : ∀ q : Nat, s.heap.size ≤ q → A q := fun q h => by rw [← hAe]; exact Or.inr h
  have hS : va_S A s.heap s.heap [] := va_S.rf
  have hP : va_P (dC, dI) vwCl [(a0, .inr (5, [.ref a2, .int 8, g3, g4, g5, g6, g7, g8, g9, g10, g11, g12])), (a2, .inl (cB13, 900, .inl f14))] s.heap := hP
  have hl := lv_entry ([.ref a0, .int k1]) (n := 3) (Nat.le_of_ble_eq_true rfl)
  rw [lg_entry_eq]
  generalize (lg_sl ([.ref a0, .int k1]) ++ List.replicate (3 - (lg_sl ([.ref a0, .int k1])).length) Slot.unset).toArray = ls at hl ⊢
  have hl : lv_has ls 3 [(0, .ref a0), (1, .int k1)] := hl
  refine lv_bipush (v := 24) hx hb dX7_put_0 (by decide) ?_
  refine lv_istore_n (lv' := [(2, .int 24), (0, .ref a0), (1, .int k1)]) hx hb dX7_put_2 rfl hl (by decide) rfl (fun ls hl => ?_)
  refine lv_iload_n hx hb dX7_put_3 rfl (lv_at hl 0 rfl) ?_
  refine lv_if_lt (tgt := 48) hx hb dX7_put_4 (by decide) (fun c1 => absurd c1 (by decide)) (fun _ => ?_)
  refine lv_aload_n hx hb dX7_put_7 rfl (lv_at hl 1 rfl) ?_
  refine va_get (D := (dC, dI)) (ci := 5) (v := .int 8) (C := RX7) (T := TX7) (N := 12) hx hb hts iX7_put_2_X7 hown hK hP 0 rfl rfl 1 (by decide) (hts (.fieldLink RX7 15 "HookPier$Reader" "fed" "I") (List.mem_of_getElem? (i := 1) rfl)) (fun _ h9 => h9) rfl dX7_put_8 ?_
  refine lv_aload_n hx hb dX7_put_11 rfl (lv_at hl 1 rfl) ?_
  refine va_get (D := (dC, dI)) (ci := 5) (v := .ref a2) (C := RX7) (T := TX7) (N := 12) hx hb hts iX7_put_2_X7 hown hK hP 0 rfl rfl 0 (by decide) (hts (.fieldLink RX7 9 "HookPier$Reader" "text" "[B") (List.mem_of_getElem? (i := 2) rfl)) (fun _ h9 => h9) rfl dX7_put_12 ?_
  refine va_alen (v := 900) hx hb hK hP 1 0 rfl rfl rfl dX7_put_15 ?_
  refine lv_icmp_ge (tgt := 48) hx hb dX7_put_16 (by decide) (fun c2 => absurd c2 (by decide)) (fun _ => ?_)
  refine lv_aload_n hx hb dX7_put_19 rfl (lv_at hl 1 rfl) ?_
  refine va_get (D := (dC, dI)) (ci := 5) (v := .ref a2) (C := RX7) (T := TX7) (N := 12) hx hb hts iX7_put_2_X7 hown hK hP 0 rfl rfl 0 (by decide) (hts (.fieldLink RX7 9 "HookPier$Reader" "text" "[B") (List.mem_of_getElem? (i := 2) rfl)) (fun _ h9 => h9) rfl dX7_put_20 ?_
  refine lv_aload_n hx hb dX7_put_23 rfl (lv_at hl 1 rfl) ?_
  refine va_get (D := (dC, dI)) (ci := 5) (v := .int 8) (C := RX7) (T := TX7) (N := 12) hx hb hts iX7_put_2_X7 hown hK hP 0 rfl rfl 1 (by decide) (hts (.fieldLink RX7 15 "HookPier$Reader" "fed" "I") (List.mem_of_getElem? (i := 1) rfl)) (fun _ h9 => h9) rfl dX7_put_24 ?_
  refine lv_iload_n hx hb dX7_put_27 rfl (lv_at hl 2 rfl) ?_
  refine lv_iload_n hx hb dX7_put_28 rfl (lv_at hl 0 rfl) ?_
  refine lv_ishr hx hb dX7_put_29 ?_
  refine lv_topi (fun z3 _ => ?_)
  refine lv_i2b hx hb dX7_put_30 rfl ?_
  refine lv_topi (fun z4 _ => ?_)
  refine va_bast hx hb hK hP hD hS 1 0 rfl rfl (by unfold vp_in; decide) dX7_put_31 (fun H locs hP hD hS => ?_)
  have hP : va_P (dC, dI) vwCl [(a0, .inr (5, [.ref a2, .int 8, g3, g4, g5, g6, g7, g8, g9, g10, g11, g12])), (a2, .inl (cB13, 900, .inl (upd f14 (8 : Int32).toNatClampNeg (vp_nar .byte z4))))] H := hP
  have hD : va_D A [(a0, .inr (5, [.ref a2, .int 8, g3, g4, g5, g6, g7, g8, g9, g10, g11, g12])), (a2, .inl (cB13, 900, .inl (upd f14 (8 : Int32).toNatClampNeg (vp_nar .byte z4))))] := hD
  generalize upd f14 (8 : Int32).toNatClampNeg (vp_nar .byte z4) = f5 at hP hD
  refine lv_aload_n hx hb dX7_put_32 rfl (lv_at hl 1 rfl) ?_
  refine lv_dup hx hb dX7_put_33 rfl ?_
  refine va_get (D := (dC, dI)) (ci := 5) (v := .int 8) (C := RX7) (T := TX7) (N := 12) hx hb hts iX7_put_2_X7 hown hK hP 0 rfl rfl 1 (by decide) (hts (.fieldLink RX7 15 "HookPier$Reader" "fed" "I") (List.mem_of_getElem? (i := 1) rfl)) (fun _ h9 => h9) rfl dX7_put_34 ?_
  refine lv_iconst (v := 1) hx hb dX7_put_37 (by decide) ?_
  refine lv_iadd hx hb dX7_put_38 ?_
  refine lv_topi (fun z6 ez6 => ?_)
  obtain rfl : z6 = 9 := ez6.trans (by decide)
  refine va_put (D := (dC, dI)) (ci := 5) (v := .int 9) (ty := .int) (C := RX7) (T := TX7) (N := 12) hx hb hts iX7_put_2_X7 tyX7 tyX7_ok nmX7 hown hK hP hD hS 0 rfl rfl 1 (by decide) (hts (.fieldLink RX7 15 "HookPier$Reader" "fed" "I") (List.mem_of_getElem? (i := 1) rfl)) (fun _ h9 => h9) rfl (by decide +kernel) rfl rfl (Nat.le_of_ble_eq_true rfl) dX7_put_39 (fun H locs hP hD hS => ?_)
  have hP : va_P (dC, dI) vwCl [(a0, .inr (5, [.ref a2, .int 9, g3, g4, g5, g6, g7, g8, g9, g10, g11, g12])), (a2, .inl (cB13, 900, .inl f5))] H := hP
  have hD : va_D A [(a0, .inr (5, [.ref a2, .int 9, g3, g4, g5, g6, g7, g8, g9, g10, g11, g12])), (a2, .inl (cB13, 900, .inl f5))] := hD
  refine lv_iinc (v := 16) (lv' := [(2, .int 16), (0, .ref a0), (1, .int k1)]) hx hb dX7_put_42 hl (k := 0) rfl (by decide) (by decide) rfl (fun ls hl => ?_)
  refine lv_goto (tgt := 3) hx hb dX7_put_45 (by decide) ?_
  refine lv_iload_n hx hb dX7_put_3 rfl (lv_at hl 0 rfl) ?_
  refine lv_if_lt (tgt := 48) hx hb dX7_put_4 (by decide) (fun c7 => absurd c7 (by decide)) (fun _ => ?_)
  refine lv_aload_n hx hb dX7_put_7 rfl (lv_at hl 1 rfl) ?_
  refine va_get (D := (dC, dI)) (ci := 5) (v := .int 9) (C := RX7) (T := TX7) (N := 12) hx hb hts iX7_put_2_X7 hown hK hP 0 rfl rfl 1 (by decide) (hts (.fieldLink RX7 15 "HookPier$Reader" "fed" "I") (List.mem_of_getElem? (i := 1) rfl)) (fun _ h9 => h9) rfl dX7_put_8 ?_
  refine lv_aload_n hx hb dX7_put_11 rfl (lv_at hl 1 rfl) ?_
  refine va_get (D := (dC, dI)) (ci := 5) (v := .ref a2) (C := RX7) (T := TX7) (N := 12) hx hb hts iX7_put_2_X7 hown hK hP 0 rfl rfl 0 (by decide) (hts (.fieldLink RX7 9 "HookPier$Reader" "text" "[B") (List.mem_of_getElem? (i := 2) rfl)) (fun _ h9 => h9) rfl dX7_put_12 ?_
  refine va_alen (v := 900) hx hb hK hP 1 0 rfl rfl rfl dX7_put_15 ?_
  refine lv_icmp_ge (tgt := 48) hx hb dX7_put_16 (by decide) (fun c8 => absurd c8 (by decide)) (fun _ => ?_)
  refine lv_aload_n hx hb dX7_put_19 rfl (lv_at hl 1 rfl) ?_
  refine va_get (D := (dC, dI)) (ci := 5) (v := .ref a2) (C := RX7) (T := TX7) (N := 12) hx hb hts iX7_put_2_X7 hown hK hP 0 rfl rfl 0 (by decide) (hts (.fieldLink RX7 9 "HookPier$Reader" "text" "[B") (List.mem_of_getElem? (i := 2) rfl)) (fun _ h9 => h9) rfl dX7_put_20 ?_
  refine lv_aload_n hx hb dX7_put_23 rfl (lv_at hl 1 rfl) ?_
  refine va_get (D := (dC, dI)) (ci := 5) (v := .int 9) (C := RX7) (T := TX7) (N := 12) hx hb hts iX7_put_2_X7 hown hK hP 0 rfl rfl 1 (by decide) (hts (.fieldLink RX7 15 "HookPier$Reader" "fed" "I") (List.mem_of_getElem? (i := 1) rfl)) (fun _ h9 => h9) rfl dX7_put_24 ?_
  refine lv_iload_n hx hb dX7_put_27 rfl (lv_at hl 2 rfl) ?_
  refine lv_iload_n hx hb dX7_put_28 rfl (lv_at hl 0 rfl) ?_
  refine lv_ishr hx hb dX7_put_29 ?_
  refine lv_topi (fun z9 _ => ?_)
  refine lv_i2b hx hb dX7_put_30 rfl ?_
  refine lv_topi (fun z10 _ => ?_)
  refine va_bast hx hb hK hP hD hS 1 0 rfl rfl (by unfold vp_in; decide) dX7_put_31 (fun H locs hP hD hS => ?_)
  have hP : va_P (dC, dI) vwCl [(a0, .inr (5, [.ref a2, .int 9, g3, g4, g5, g6, g7, g8, g9, g10, g11, g12])), (a2, .inl (cB13, 900, .inl (upd f5 (9 : Int32).toNatClampNeg (vp_nar .byte z10))))] H := hP
  have hD : va_D A [(a0, .inr (5, [.ref a2, .int 9, g3, g4, g5, g6, g7, g8, g9, g10, g11, g12])), (a2, .inl (cB13, 900, .inl (upd f5 (9 : Int32).toNatClampNeg (vp_nar .byte z10))))] := hD
  generalize upd f5 (9 : Int32).toNatClampNeg (vp_nar .byte z10) = f11 at hP hD
  refine lv_aload_n hx hb dX7_put_32 rfl (lv_at hl 1 rfl) ?_
  refine lv_dup hx hb dX7_put_33 rfl ?_
  refine va_get (D := (dC, dI)) (ci := 5) (v := .int 9) (C := RX7) (T := TX7) (N := 12) hx hb hts iX7_put_2_X7 hown hK hP 0 rfl rfl 1 (by decide) (hts (.fieldLink RX7 15 "HookPier$Reader" "fed" "I") (List.mem_of_getElem? (i := 1) rfl)) (fun _ h9 => h9) rfl dX7_put_34 ?_
  refine lv_iconst (v := 1) hx hb dX7_put_37 (by decide) ?_
  refine lv_iadd hx hb dX7_put_38 ?_
  refine lv_topi (fun z12 ez12 => ?_)
  obtain rfl : z12 = 10 := ez12.trans (by decide)
  refine va_put (D := (dC, dI)) (ci := 5) (v := .int 10) (ty := .int) (C := RX7) (T := TX7) (N := 12) hx hb hts iX7_put_2_X7 tyX7 tyX7_ok nmX7 hown hK hP hD hS 0 rfl rfl 1 (by decide) (hts (.fieldLink RX7 15 "HookPier$Reader" "fed" "I") (List.mem_of_getElem? (i := 1) rfl)) (fun _ h9 => h9) rfl (by decide +kernel) rfl rfl (Nat.le_of_ble_eq_true rfl) dX7_put_39 (fun H locs hP hD hS => ?_)
  have hP : va_P (dC, dI) vwCl [(a0, .inr (5, [.ref a2, .int 10, g3, g4, g5, g6, g7, g8, g9, g10, g11, g12])), (a2, .inl (cB13, 900, .inl f11))] H := hP
  have hD : va_D A [(a0, .inr (5, [.ref a2, .int 10, g3, g4, g5, g6, g7, g8, g9, g10, g11, g12])), (a2, .inl (cB13, 900, .inl f11))] := hD
  refine lv_iinc (v := 8) (lv' := [(2, .int 8), (0, .ref a0), (1, .int k1)]) hx hb dX7_put_42 hl (k := 0) rfl (by decide) (by decide) rfl (fun ls hl => ?_)
  refine lv_goto (tgt := 3) hx hb dX7_put_45 (by decide) ?_
  refine lv_iload_n hx hb dX7_put_3 rfl (lv_at hl 0 rfl) ?_
  refine lv_if_lt (tgt := 48) hx hb dX7_put_4 (by decide) (fun c13 => absurd c13 (by decide)) (fun _ => ?_)
  refine lv_aload_n hx hb dX7_put_7 rfl (lv_at hl 1 rfl) ?_
  refine va_get (D := (dC, dI)) (ci := 5) (v := .int 10) (C := RX7) (T := TX7) (N := 12) hx hb hts iX7_put_2_X7 hown hK hP 0 rfl rfl 1 (by decide) (hts (.fieldLink RX7 15 "HookPier$Reader" "fed" "I") (List.mem_of_getElem? (i := 1) rfl)) (fun _ h9 => h9) rfl dX7_put_8 ?_
  refine lv_aload_n hx hb dX7_put_11 rfl (lv_at hl 1 rfl) ?_
  refine va_get (D := (dC, dI)) (ci := 5) (v := .ref a2) (C := RX7) (T := TX7) (N := 12) hx hb hts iX7_put_2_X7 hown hK hP 0 rfl rfl 0 (by decide) (hts (.fieldLink RX7 9 "HookPier$Reader" "text" "[B") (List.mem_of_getElem? (i := 2) rfl)) (fun _ h9 => h9) rfl dX7_put_12 ?_
  refine va_alen (v := 900) hx hb hK hP 1 0 rfl rfl rfl dX7_put_15 ?_
  refine lv_icmp_ge (tgt := 48) hx hb dX7_put_16 (by decide) (fun c14 => absurd c14 (by decide)) (fun _ => ?_)
  refine lv_aload_n hx hb dX7_put_19 rfl (lv_at hl 1 rfl) ?_
  refine va_get (D := (dC, dI)) (ci := 5) (v := .ref a2) (C := RX7) (T := TX7) (N := 12) hx hb hts iX7_put_2_X7 hown hK hP 0 rfl rfl 0 (by decide) (hts (.fieldLink RX7 9 "HookPier$Reader" "text" "[B") (List.mem_of_getElem? (i := 2) rfl)) (fun _ h9 => h9) rfl dX7_put_20 ?_
  refine lv_aload_n hx hb dX7_put_23 rfl (lv_at hl 1 rfl) ?_
  refine va_get (D := (dC, dI)) (ci := 5) (v := .int 10) (C := RX7) (T := TX7) (N := 12) hx hb hts iX7_put_2_X7 hown hK hP 0 rfl rfl 1 (by decide) (hts (.fieldLink RX7 15 "HookPier$Reader" "fed" "I") (List.mem_of_getElem? (i := 1) rfl)) (fun _ h9 => h9) rfl dX7_put_24 ?_
  refine lv_iload_n hx hb dX7_put_27 rfl (lv_at hl 2 rfl) ?_
  refine lv_iload_n hx hb dX7_put_28 rfl (lv_at hl 0 rfl) ?_
  refine lv_ishr hx hb dX7_put_29 ?_
  refine lv_topi (fun z15 _ => ?_)
  refine lv_i2b hx hb dX7_put_30 rfl ?_
  refine lv_topi (fun z16 _ => ?_)
  refine va_bast hx hb hK hP hD hS 1 0 rfl rfl (by unfold vp_in; decide) dX7_put_31 (fun H locs hP hD hS => ?_)
  have hP : va_P (dC, dI) vwCl [(a0, .inr (5, [.ref a2, .int 10, g3, g4, g5, g6, g7, g8, g9, g10, g11, g12])), (a2, .inl (cB13, 900, .inl (upd f11 (10 : Int32).toNatClampNeg (vp_nar .byte z16))))] H := hP
  have hD : va_D A [(a0, .inr (5, [.ref a2, .int 10, g3, g4, g5, g6, g7, g8, g9, g10, g11, g12])), (a2, .inl (cB13, 900, .inl (upd f11 (10 : Int32).toNatClampNeg (vp_nar .byte z16))))] := hD
  generalize upd f11 (10 : Int32).toNatClampNeg (vp_nar .byte z16) = f17 at hP hD
  refine lv_aload_n hx hb dX7_put_32 rfl (lv_at hl 1 rfl) ?_
  refine lv_dup hx hb dX7_put_33 rfl ?_
  refine va_get (D := (dC, dI)) (ci := 5) (v := .int 10) (C := RX7) (T := TX7) (N := 12) hx hb hts iX7_put_2_X7 hown hK hP 0 rfl rfl 1 (by decide) (hts (.fieldLink RX7 15 "HookPier$Reader" "fed" "I") (List.mem_of_getElem? (i := 1) rfl)) (fun _ h9 => h9) rfl dX7_put_34 ?_
  refine lv_iconst (v := 1) hx hb dX7_put_37 (by decide) ?_
  refine lv_iadd hx hb dX7_put_38 ?_
  refine lv_topi (fun z18 ez18 => ?_)
  obtain rfl : z18 = 11 := ez18.trans (by decide)
  refine va_put (D := (dC, dI)) (ci := 5) (v := .int 11) (ty := .int) (C := RX7) (T := TX7) (N := 12) hx hb hts iX7_put_2_X7 tyX7 tyX7_ok nmX7 hown hK hP hD hS 0 rfl rfl 1 (by decide) (hts (.fieldLink RX7 15 "HookPier$Reader" "fed" "I") (List.mem_of_getElem? (i := 1) rfl)) (fun _ h9 => h9) rfl (by decide +kernel) rfl rfl (Nat.le_of_ble_eq_true rfl) dX7_put_39 (fun H locs hP hD hS => ?_)
  have hP : va_P (dC, dI) vwCl [(a0, .inr (5, [.ref a2, .int 11, g3, g4, g5, g6, g7, g8, g9, g10, g11, g12])), (a2, .inl (cB13, 900, .inl f17))] H := hP
  have hD : va_D A [(a0, .inr (5, [.ref a2, .int 11, g3, g4, g5, g6, g7, g8, g9, g10, g11, g12])), (a2, .inl (cB13, 900, .inl f17))] := hD
  refine lv_iinc (v := 0) (lv' := [(2, .int 0), (0, .ref a0), (1, .int k1)]) hx hb dX7_put_42 hl (k := 0) rfl (by decide) (by decide) rfl (fun ls hl => ?_)
  refine lv_goto (tgt := 3) hx hb dX7_put_45 (by decide) ?_
  refine lv_iload_n hx hb dX7_put_3 rfl (lv_at hl 0 rfl) ?_
  refine lv_if_lt (tgt := 48) hx hb dX7_put_4 (by decide) (fun c19 => absurd c19 (by decide)) (fun _ => ?_)
  refine lv_aload_n hx hb dX7_put_7 rfl (lv_at hl 1 rfl) ?_
  refine va_get (D := (dC, dI)) (ci := 5) (v := .int 11) (C := RX7) (T := TX7) (N := 12) hx hb hts iX7_put_2_X7 hown hK hP 0 rfl rfl 1 (by decide) (hts (.fieldLink RX7 15 "HookPier$Reader" "fed" "I") (List.mem_of_getElem? (i := 1) rfl)) (fun _ h9 => h9) rfl dX7_put_8 ?_
  refine lv_aload_n hx hb dX7_put_11 rfl (lv_at hl 1 rfl) ?_
  refine va_get (D := (dC, dI)) (ci := 5) (v := .ref a2) (C := RX7) (T := TX7) (N := 12) hx hb hts iX7_put_2_X7 hown hK hP 0 rfl rfl 0 (by decide) (hts (.fieldLink RX7 9 "HookPier$Reader" "text" "[B") (List.mem_of_getElem? (i := 2) rfl)) (fun _ h9 => h9) rfl dX7_put_12 ?_
  refine va_alen (v := 900) hx hb hK hP 1 0 rfl rfl rfl dX7_put_15 ?_
  refine lv_icmp_ge (tgt := 48) hx hb dX7_put_16 (by decide) (fun c20 => absurd c20 (by decide)) (fun _ => ?_)
  refine lv_aload_n hx hb dX7_put_19 rfl (lv_at hl 1 rfl) ?_
  refine va_get (D := (dC, dI)) (ci := 5) (v := .ref a2) (C := RX7) (T := TX7) (N := 12) hx hb hts iX7_put_2_X7 hown hK hP 0 rfl rfl 0 (by decide) (hts (.fieldLink RX7 9 "HookPier$Reader" "text" "[B") (List.mem_of_getElem? (i := 2) rfl)) (fun _ h9 => h9) rfl dX7_put_20 ?_
  refine lv_aload_n hx hb dX7_put_23 rfl (lv_at hl 1 rfl) ?_
  refine va_get (D := (dC, dI)) (ci := 5) (v := .int 11) (C := RX7) (T := TX7) (N := 12) hx hb hts iX7_put_2_X7 hown hK hP 0 rfl rfl 1 (by decide) (hts (.fieldLink RX7 15 "HookPier$Reader" "fed" "I") (List.mem_of_getElem? (i := 1) rfl)) (fun _ h9 => h9) rfl dX7_put_24 ?_
  refine lv_iload_n hx hb dX7_put_27 rfl (lv_at hl 2 rfl) ?_
  refine lv_iload_n hx hb dX7_put_28 rfl (lv_at hl 0 rfl) ?_
  refine lv_ishr hx hb dX7_put_29 ?_
  refine lv_topi (fun z21 _ => ?_)
  refine lv_i2b hx hb dX7_put_30 rfl ?_
  refine lv_topi (fun z22 _ => ?_)
  refine va_bast hx hb hK hP hD hS 1 0 rfl rfl (by unfold vp_in; decide) dX7_put_31 (fun H locs hP hD hS => ?_)
  have hP : va_P (dC, dI) vwCl [(a0, .inr (5, [.ref a2, .int 11, g3, g4, g5, g6, g7, g8, g9, g10, g11, g12])), (a2, .inl (cB13, 900, .inl (upd f17 (11 : Int32).toNatClampNeg (vp_nar .byte z22))))] H := hP
  have hD : va_D A [(a0, .inr (5, [.ref a2, .int 11, g3, g4, g5, g6, g7, g8, g9, g10, g11, g12])), (a2, .inl (cB13, 900, .inl (upd f17 (11 : Int32).toNatClampNeg (vp_nar .byte z22))))] := hD
  generalize upd f17 (11 : Int32).toNatClampNeg (vp_nar .byte z22) = f23 at hP hD
  refine lv_aload_n hx hb dX7_put_32 rfl (lv_at hl 1 rfl) ?_
  refine lv_dup hx hb dX7_put_33 rfl ?_
  refine va_get (D := (dC, dI)) (ci := 5) (v := .int 11) (C := RX7) (T := TX7) (N := 12) hx hb hts iX7_put_2_X7 hown hK hP 0 rfl rfl 1 (by decide) (hts (.fieldLink RX7 15 "HookPier$Reader" "fed" "I") (List.mem_of_getElem? (i := 1) rfl)) (fun _ h9 => h9) rfl dX7_put_34 ?_
  refine lv_iconst (v := 1) hx hb dX7_put_37 (by decide) ?_
  refine lv_iadd hx hb dX7_put_38 ?_
  refine lv_topi (fun z24 ez24 => ?_)
  obtain rfl : z24 = 12 := ez24.trans (by decide)
  refine va_put (D := (dC, dI)) (ci := 5) (v := .int 12) (ty := .int) (C := RX7) (T := TX7) (N := 12) hx hb hts iX7_put_2_X7 tyX7 tyX7_ok nmX7 hown hK hP hD hS 0 rfl rfl 1 (by decide) (hts (.fieldLink RX7 15 "HookPier$Reader" "fed" "I") (List.mem_of_getElem? (i := 1) rfl)) (fun _ h9 => h9) rfl (by decide +kernel) rfl rfl (Nat.le_of_ble_eq_true rfl) dX7_put_39 (fun H locs hP hD hS => ?_)
  have hP : va_P (dC, dI) vwCl [(a0, .inr (5, [.ref a2, .int 12, g3, g4, g5, g6, g7, g8, g9, g10, g11, g12])), (a2, .inl (cB13, 900, .inl f23))] H := hP
  have hD : va_D A [(a0, .inr (5, [.ref a2, .int 12, g3, g4, g5, g6, g7, g8, g9, g10, g11, g12])), (a2, .inl (cB13, 900, .inl f23))] := hD
  refine lv_iinc (v := (-8)) (lv' := [(2, .int (-8)), (0, .ref a0), (1, .int k1)]) hx hb dX7_put_42 hl (k := 0) rfl (by decide) (by decide) rfl (fun ls hl => ?_)
  refine lv_goto (tgt := 3) hx hb dX7_put_45 (by decide) ?_
  refine lv_iload_n hx hb dX7_put_3 rfl (lv_at hl 0 rfl) ?_
  refine lv_if_lt (tgt := 48) hx hb dX7_put_4 (by decide) (fun _ => ?_) (fun c25 => absurd c25 (by decide))
  have hP9 := hP.sub (ws' := [(a0, .inr (5, [.ref a2, .int 12, g3, g4, g5, g6, g7, g8, g9, g10, g11, g12])), (a2, .inl (cB13, 900, .inl f23))]) [0, 1] rfl
  have hD9 := hD.sub (ws' := [(a0, .inr (5, [.ref a2, .int 12, g3, g4, g5, g6, g7, g8, g9, g10, g11, g12])), (a2, .inl (cB13, 900, .inl f23))]) [0, 1] (by decide) rfl
  have hK9 := hK.sub (tys' := []) [] rfl
  exact W.vret hx hb hr (fun t ht hW => ⟨⟨f23, rfl, trivial, by rw [ht]; exact hP9, va_K.moved hW.alike hK9, hD9⟩, hS.F ht⟩) hS.2.2 dX7_put_48
def vX7_put_3 : List Cond := .code yX7_put cX7_put 3 none :: ([.fieldLink RX7 15 "HookPier$Reader" "fed" "I", .fieldLink RX7 9 "HookPier$Reader" "text" "[B"] ++ wsX70)
theorem iX7_put_3_X7 : ∀ w ∈ wsX70, w ∈ vX7_put_3 := fun _ h => List.mem_cons_of_mem _ (List.mem_append_right _ h)
set_option maxHeartbeats 1000000 in
set_option maxRecDepth 100000 in
theorem kX7_put_3 (l : Launch) (dC : Nat → ClassId) (dI : Nat → Nat → Nat) (a0 : Nat) (k1 : Int32) (a2 : Nat) (g3 : Value) (g4 : Value) (g5 : Value) (g6 : Value) (g7 : Value) (g8 : Value) (g9 : Value) (g10 : Value) (g11 : Value) (g12 : Value) (cB13 : ClassId) (f14 : Nat → Int32) (sz : Nat) : Met l yX7_put vX7_put_3 ({ frames := 0, cells := 0, slots := 0, locals := 0 }) (PC (dC, dI) [.ref a0, .int k1] sz [(a0, .inr (5, [.ref a2, .int 12, g3, g4, g5, g6, g7, g8, g9, g10, g11, g12])), (a2, .inl (cB13, 900, .inl f14))] [(cB13, .byte)]) (va_Qv (S := (Nat → Int32)) (fun _ => True) (fun u t => BC (dC, dI) (va_A [(a0, .inr (5, [.ref a2, .int 12, g3, g4, g5, g6, g7, g8, g9, g10, g11, g12])), (a2, .inl (cB13, 900, .inl f14))] sz) [(a0, .inr (5, [.ref a2, .int 16, g3, g4, g5, g6, g7, g8, g9, g10, g11, g12])), (a2, .inl (cB13, 900, .inl u))] [] t) (va_A [(a0, .inr (5, [.ref a2, .int 12, g3, g4, g5, g6, g7, g8, g9, g10, g11, g12])), (a2, .inl (cB13, 900, .inl f14))] sz)) 0 0 (va_A [(a0, .inr (5, [.ref a2, .int 12, g3, g4, g5, g6, g7, g8, g9, g10, g11, g12])), (a2, .inl (cB13, 900, .inl f14))] sz) := by
  refine Met.ofW (cc := cX7_put) (maxL := 3) (ret := none) (by decide) rfl ?_
  intro p e s m args below meth c s₁ B hml hv
  obtain ⟨rfl, hsz, hP, hK, hD0, hN⟩ := hv
  have hx := B.exec
  have hb := B.bytes
  have hr := B.returns
  have hts := atoms_spec (ws := vX7_put_3) B.pre
  have hown : s.vm.findClass RX7 = some m.cls := findClass_of_methodNamed B.named
  have hlocks := B.notSynchronized
  subst hsz
  have hD := hD0.self (sz := s.heap.size)
  generalize hAe : va_A [(a0, .inr (5, [.ref a2, .int 12, g3, g4, g5, g6, g7, g8, g9, g10, g11, g12])), (a2, .inl (cB13, 900, .inl f14))] s.heap.size = A at hD ⊢
  have hA : ∀ q : Nat, s.heap.size ≤ q → A q := fun q h => by rw [← hAe]; exact Or.inr h
  have hS : va_S A s.heap s.heap [] := va_S.rf
  have hP : va_P (dC, dI) vwCl [(a0, .inr (5, [.ref a2, .int 12, g3, g4, g5, g6, g7, g8, g9, g10, g11, g12])), (a2, .inl (cB13, 900, .inl f14))] s.heap := hP
  have hl := lv_entry ([.ref a0, .int k1]) (n := 3) (Nat.le_of_ble_eq_true rfl)
  rw [lg_entry_eq]
  generalize (lg_sl ([.ref a0, .int k1]) ++ List.replicate (3 - (lg_sl ([.ref a0, .int k1])).length) Slot.unset).toArray = ls at hl ⊢
  have hl : lv_has ls 3 [(0, .ref a0), (1, .int k1)] := hl
  refine lv_bipush (v := 24) hx hb dX7_put_0 (by decide) ?_
  refine lv_istore_n (lv' := [(2, .int 24), (0, .ref a0), (1, .int k1)]) hx hb dX7_put_2 rfl hl (by decide) rfl (fun ls hl => ?_)
  refine lv_iload_n hx hb dX7_put_3 rfl (lv_at hl 0 rfl) ?_
  refine lv_if_lt (tgt := 48) hx hb dX7_put_4 (by decide) (fun c1 => absurd c1 (by decide)) (fun _ => ?_)
  refine lv_aload_n hx hb dX7_put_7 rfl (lv_at hl 1 rfl) ?_
  refine va_get (D := (dC, dI)) (ci := 5) (v := .int 12) (C := RX7) (T := TX7) (N := 12) hx hb hts iX7_put_3_X7 hown hK hP 0 rfl rfl 1 (by decide) (hts (.fieldLink RX7 15 "HookPier$Reader" "fed" "I") (List.mem_of_getElem? (i := 1) rfl)) (fun _ h9 => h9) rfl dX7_put_8 ?_
  refine lv_aload_n hx hb dX7_put_11 rfl (lv_at hl 1 rfl) ?_
  refine va_get (D := (dC, dI)) (ci := 5) (v := .ref a2) (C := RX7) (T := TX7) (N := 12) hx hb hts iX7_put_3_X7 hown hK hP 0 rfl rfl 0 (by decide) (hts (.fieldLink RX7 9 "HookPier$Reader" "text" "[B") (List.mem_of_getElem? (i := 2) rfl)) (fun _ h9 => h9) rfl dX7_put_12 ?_
  refine va_alen (v := 900) hx hb hK hP 1 0 rfl rfl rfl dX7_put_15 ?_
  refine lv_icmp_ge (tgt := 48) hx hb dX7_put_16 (by decide) (fun c2 => absurd c2 (by decide)) (fun _ => ?_)
  refine lv_aload_n hx hb dX7_put_19 rfl (lv_at hl 1 rfl) ?_
  refine va_get (D := (dC, dI)) (ci := 5) (v := .ref a2) (C := RX7) (T := TX7) (N := 12) hx hb hts iX7_put_3_X7 hown hK hP 0 rfl rfl 0 (by decide) (hts (.fieldLink RX7 9 "HookPier$Reader" "text" "[B") (List.mem_of_getElem? (i := 2) rfl)) (fun _ h9 => h9) rfl dX7_put_20 ?_
  refine lv_aload_n hx hb dX7_put_23 rfl (lv_at hl 1 rfl) ?_
  refine va_get (D := (dC, dI)) (ci := 5) (v := .int 12) (C := RX7) (T := TX7) (N := 12) hx hb hts iX7_put_3_X7 hown hK hP 0 rfl rfl 1 (by decide) (hts (.fieldLink RX7 15 "HookPier$Reader" "fed" "I") (List.mem_of_getElem? (i := 1) rfl)) (fun _ h9 => h9) rfl dX7_put_24 ?_
  refine lv_iload_n hx hb dX7_put_27 rfl (lv_at hl 2 rfl) ?_
  refine lv_iload_n hx hb dX7_put_28 rfl (lv_at hl 0 rfl) ?_
  refine lv_ishr hx hb dX7_put_29 ?_
  refine lv_topi (fun z3 _ => ?_)
  refine lv_i2b hx hb dX7_put_30 rfl ?_
  refine lv_topi (fun z4 _ => ?_)
  refine va_bast hx hb hK hP hD hS 1 0 rfl rfl (by unfold vp_in; decide) dX7_put_31 (fun H locs hP hD hS => ?_)
  have hP : va_P (dC, dI) vwCl [(a0, .inr (5, [.ref a2, .int 12, g3, g4, g5, g6, g7, g8, g9, g10, g11, g12])), (a2, .inl (cB13, 900, .inl (upd f14 (12 : Int32).toNatClampNeg (vp_nar .byte z4))))] H := hP
  have hD : va_D A [(a0, .inr (5, [.ref a2, .int 12, g3, g4, g5, g6, g7, g8, g9, g10, g11, g12])), (a2, .inl (cB13, 900, .inl (upd f14 (12 : Int32).toNatClampNeg (vp_nar .byte z4))))] := hD
  generalize upd f14 (12 : Int32).toNatClampNeg (vp_nar .byte z4) = f5 at hP hD
  refine lv_aload_n hx hb dX7_put_32 rfl (lv_at hl 1 rfl) ?_
  refine lv_dup hx hb dX7_put_33 rfl ?_
  refine va_get (D := (dC, dI)) (ci := 5) (v := .int 12) (C := RX7) (T := TX7) (N := 12) hx hb hts iX7_put_3_X7 hown hK hP 0 rfl rfl 1 (by decide) (hts (.fieldLink RX7 15 "HookPier$Reader" "fed" "I") (List.mem_of_getElem? (i := 1) rfl)) (fun _ h9 => h9) rfl dX7_put_34 ?_
  refine lv_iconst (v := 1) hx hb dX7_put_37 (by decide) ?_
  refine lv_iadd hx hb dX7_put_38 ?_
  refine lv_topi (fun z6 ez6 => ?_)
  obtain rfl : z6 = 13 := ez6.trans (by decide)
  refine va_put (D := (dC, dI)) (ci := 5) (v := .int 13) (ty := .int) (C := RX7) (T := TX7) (N := 12) hx hb hts iX7_put_3_X7 tyX7 tyX7_ok nmX7 hown hK hP hD hS 0 rfl rfl 1 (by decide) (hts (.fieldLink RX7 15 "HookPier$Reader" "fed" "I") (List.mem_of_getElem? (i := 1) rfl)) (fun _ h9 => h9) rfl (by decide +kernel) rfl rfl (Nat.le_of_ble_eq_true rfl) dX7_put_39 (fun H locs hP hD hS => ?_)
  have hP : va_P (dC, dI) vwCl [(a0, .inr (5, [.ref a2, .int 13, g3, g4, g5, g6, g7, g8, g9, g10, g11, g12])), (a2, .inl (cB13, 900, .inl f5))] H := hP
  have hD : va_D A [(a0, .inr (5, [.ref a2, .int 13, g3, g4, g5, g6, g7, g8, g9, g10, g11, g12])), (a2, .inl (cB13, 900, .inl f5))] := hD
  refine lv_iinc (v := 16) (lv' := [(2, .int 16), (0, .ref a0), (1, .int k1)]) hx hb dX7_put_42 hl (k := 0) rfl (by decide) (by decide) rfl (fun ls hl => ?_)
  refine lv_goto (tgt := 3) hx hb dX7_put_45 (by decide) ?_
  refine lv_iload_n hx hb dX7_put_3 rfl (lv_at hl 0 rfl) ?_
  refine lv_if_lt (tgt := 48) hx hb dX7_put_4 (by decide) (fun c7 => absurd c7 (by decide)) (fun _ => ?_)
  refine lv_aload_n hx hb dX7_put_7 rfl (lv_at hl 1 rfl) ?_
  refine va_get (D := (dC, dI)) (ci := 5) (v := .int 13) (C := RX7) (T := TX7) (N := 12) hx hb hts iX7_put_3_X7 hown hK hP 0 rfl rfl 1 (by decide) (hts (.fieldLink RX7 15 "HookPier$Reader" "fed" "I") (List.mem_of_getElem? (i := 1) rfl)) (fun _ h9 => h9) rfl dX7_put_8 ?_
  refine lv_aload_n hx hb dX7_put_11 rfl (lv_at hl 1 rfl) ?_
  refine va_get (D := (dC, dI)) (ci := 5) (v := .ref a2) (C := RX7) (T := TX7) (N := 12) hx hb hts iX7_put_3_X7 hown hK hP 0 rfl rfl 0 (by decide) (hts (.fieldLink RX7 9 "HookPier$Reader" "text" "[B") (List.mem_of_getElem? (i := 2) rfl)) (fun _ h9 => h9) rfl dX7_put_12 ?_
  refine va_alen (v := 900) hx hb hK hP 1 0 rfl rfl rfl dX7_put_15 ?_
  refine lv_icmp_ge (tgt := 48) hx hb dX7_put_16 (by decide) (fun c8 => absurd c8 (by decide)) (fun _ => ?_)
  refine lv_aload_n hx hb dX7_put_19 rfl (lv_at hl 1 rfl) ?_
  refine va_get (D := (dC, dI)) (ci := 5) (v := .ref a2) (C := RX7) (T := TX7) (N := 12) hx hb hts iX7_put_3_X7 hown hK hP 0 rfl rfl 0 (by decide) (hts (.fieldLink RX7 9 "HookPier$Reader" "text" "[B") (List.mem_of_getElem? (i := 2) rfl)) (fun _ h9 => h9) rfl dX7_put_20 ?_
  refine lv_aload_n hx hb dX7_put_23 rfl (lv_at hl 1 rfl) ?_
  refine va_get (D := (dC, dI)) (ci := 5) (v := .int 13) (C := RX7) (T := TX7) (N := 12) hx hb hts iX7_put_3_X7 hown hK hP 0 rfl rfl 1 (by decide) (hts (.fieldLink RX7 15 "HookPier$Reader" "fed" "I") (List.mem_of_getElem? (i := 1) rfl)) (fun _ h9 => h9) rfl dX7_put_24 ?_
  refine lv_iload_n hx hb dX7_put_27 rfl (lv_at hl 2 rfl) ?_
  refine lv_iload_n hx hb dX7_put_28 rfl (lv_at hl 0 rfl) ?_
  refine lv_ishr hx hb dX7_put_29 ?_
  refine lv_topi (fun z9 _ => ?_)
  refine lv_i2b hx hb dX7_put_30 rfl ?_
  refine lv_topi (fun z10 _ => ?_)
  refine va_bast hx hb hK hP hD hS 1 0 rfl rfl (by unfold vp_in; decide) dX7_put_31 (fun H locs hP hD hS => ?_)
  have hP : va_P (dC, dI) vwCl [(a0, .inr (5, [.ref a2, .int 13, g3, g4, g5, g6, g7, g8, g9, g10, g11, g12])), (a2, .inl (cB13, 900, .inl (upd f5 (13 : Int32).toNatClampNeg (vp_nar .byte z10))))] H := hP
  have hD : va_D A [(a0, .inr (5, [.ref a2, .int 13, g3, g4, g5, g6, g7, g8, g9, g10, g11, g12])), (a2, .inl (cB13, 900, .inl (upd f5 (13 : Int32).toNatClampNeg (vp_nar .byte z10))))] := hD
  generalize upd f5 (13 : Int32).toNatClampNeg (vp_nar .byte z10) = f11 at hP hD
  refine lv_aload_n hx hb dX7_put_32 rfl (lv_at hl 1 rfl) ?_
  refine lv_dup hx hb dX7_put_33 rfl ?_
  refine va_get (D := (dC, dI)) (ci := 5) (v := .int 13) (C := RX7) (T := TX7) (N := 12) hx hb hts iX7_put_3_X7 hown hK hP 0 rfl rfl 1 (by decide) (hts (.fieldLink RX7 15 "HookPier$Reader" "fed" "I") (List.mem_of_getElem? (i := 1) rfl)) (fun _ h9 => h9) rfl dX7_put_34 ?_
  refine lv_iconst (v := 1) hx hb dX7_put_37 (by decide) ?_
  refine lv_iadd hx hb dX7_put_38 ?_
  refine lv_topi (fun z12 ez12 => ?_)
  obtain rfl : z12 = 14 := ez12.trans (by decide)
  refine va_put (D := (dC, dI)) (ci := 5) (v := .int 14) (ty := .int) (C := RX7) (T := TX7) (N := 12) hx hb hts iX7_put_3_X7 tyX7 tyX7_ok nmX7 hown hK hP hD hS 0 rfl rfl 1 (by decide) (hts (.fieldLink RX7 15 "HookPier$Reader" "fed" "I") (List.mem_of_getElem? (i := 1) rfl)) (fun _ h9 => h9) rfl (by decide +kernel) rfl rfl (Nat.le_of_ble_eq_true rfl) dX7_put_39 (fun H locs hP hD hS => ?_)
  have hP : va_P (dC, dI) vwCl [(a0, .inr (5, [.ref a2, .int 14, g3, g4, g5, g6, g7, g8, g9, g10, g11, g12])), (a2, .inl (cB13, 900, .inl f11))] H := hP
  have hD : va_D A [(a0, .inr (5, [.ref a2, .int 14, g3, g4, g5, g6, g7, g8, g9, g10, g11, g12])), (a2, .inl (cB13, 900, .inl f11))] := hD
  refine lv_iinc (v := 8) (lv' := [(2, .int 8), (0, .ref a0), (1, .int k1)]) hx hb dX7_put_42 hl (k := 0) rfl (by decide) (by decide) rfl (fun ls hl => ?_)
  refine lv_goto (tgt := 3) hx hb dX7_put_45 (by decide) ?_
  refine lv_iload_n hx hb dX7_put_3 rfl (lv_at hl 0 rfl) ?_
  refine lv_if_lt (tgt := 48) hx hb dX7_put_4 (by decide) (fun c13 => absurd c13 (by decide)) (fun _ => ?_)
  refine lv_aload_n hx hb dX7_put_7 rfl (lv_at hl 1 rfl) ?_
  refine va_get (D := (dC, dI)) (ci := 5) (v := .int 14) (C := RX7) (T := TX7) (N := 12) hx hb hts iX7_put_3_X7 hown hK hP 0 rfl rfl 1 (by decide) (hts (.fieldLink RX7 15 "HookPier$Reader" "fed" "I") (List.mem_of_getElem? (i := 1) rfl)) (fun _ h9 => h9) rfl dX7_put_8 ?_
  refine lv_aload_n hx hb dX7_put_11 rfl (lv_at hl 1 rfl) ?_
  refine va_get (D := (dC, dI)) (ci := 5) (v := .ref a2) (C := RX7) (T := TX7) (N := 12) hx hb hts iX7_put_3_X7 hown hK hP 0 rfl rfl 0 (by decide) (hts (.fieldLink RX7 9 "HookPier$Reader" "text" "[B") (List.mem_of_getElem? (i := 2) rfl)) (fun _ h9 => h9) rfl dX7_put_12 ?_
  refine va_alen (v := 900) hx hb hK hP 1 0 rfl rfl rfl dX7_put_15 ?_
  refine lv_icmp_ge (tgt := 48) hx hb dX7_put_16 (by decide) (fun c14 => absurd c14 (by decide)) (fun _ => ?_)
  refine lv_aload_n hx hb dX7_put_19 rfl (lv_at hl 1 rfl) ?_
  refine va_get (D := (dC, dI)) (ci := 5) (v := .ref a2) (C := RX7) (T := TX7) (N := 12) hx hb hts iX7_put_3_X7 hown hK hP 0 rfl rfl 0 (by decide) (hts (.fieldLink RX7 9 "HookPier$Reader" "text" "[B") (List.mem_of_getElem? (i := 2) rfl)) (fun _ h9 => h9) rfl dX7_put_20 ?_
  refine lv_aload_n hx hb dX7_put_23 rfl (lv_at hl 1 rfl) ?_
  refine va_get (D := (dC, dI)) (ci := 5) (v := .int 14) (C := RX7) (T := TX7) (N := 12) hx hb hts iX7_put_3_X7 hown hK hP 0 rfl rfl 1 (by decide) (hts (.fieldLink RX7 15 "HookPier$Reader" "fed" "I") (List.mem_of_getElem? (i := 1) rfl)) (fun _ h9 => h9) rfl dX7_put_24 ?_
  refine lv_iload_n hx hb dX7_put_27 rfl (lv_at hl 2 rfl) ?_
  refine lv_iload_n hx hb dX7_put_28 rfl (lv_at hl 0 rfl) ?_
  refine lv_ishr hx hb dX7_put_29 ?_
  refine lv_topi (fun z15 _ => ?_)
  refine lv_i2b hx hb dX7_put_30 rfl ?_
  refine lv_topi (fun z16 _ => ?_)
  refine va_bast hx hb hK hP hD hS 1 0 rfl rfl (by unfold vp_in; decide) dX7_put_31 (fun H locs hP hD hS => ?_)
  have hP : va_P (dC, dI) vwCl [(a0, .inr (5, [.ref a2, .int 14, g3, g4, g5, g6, g7, g8, g9, g10, g11, g12])), (a2, .inl (cB13, 900, .inl (upd f11 (14 : Int32).toNatClampNeg (vp_nar .byte z16))))] H := hP
  have hD : va_D A [(a0, .inr (5, [.ref a2, .int 14, g3, g4, g5, g6, g7, g8, g9, g10, g11, g12])), (a2, .inl (cB13, 900, .inl (upd f11 (14 : Int32).toNatClampNeg (vp_nar .byte z16))))] := hD
  generalize upd f11 (14 : Int32).toNatClampNeg (vp_nar .byte z16) = f17 at hP hD
  refine lv_aload_n hx hb dX7_put_32 rfl (lv_at hl 1 rfl) ?_
  refine lv_dup hx hb dX7_put_33 rfl ?_
  refine va_get (D := (dC, dI)) (ci := 5) (v := .int 14) (C := RX7) (T := TX7) (N := 12) hx hb hts iX7_put_3_X7 hown hK hP 0 rfl rfl 1 (by decide) (hts (.fieldLink RX7 15 "HookPier$Reader" "fed" "I") (List.mem_of_getElem? (i := 1) rfl)) (fun _ h9 => h9) rfl dX7_put_34 ?_
  refine lv_iconst (v := 1) hx hb dX7_put_37 (by decide) ?_
  refine lv_iadd hx hb dX7_put_38 ?_
  refine lv_topi (fun z18 ez18 => ?_)
  obtain rfl : z18 = 15 := ez18.trans (by decide)
  refine va_put (D := (dC, dI)) (ci := 5) (v := .int 15) (ty := .int) (C := RX7) (T := TX7) (N := 12) hx hb hts iX7_put_3_X7 tyX7 tyX7_ok nmX7 hown hK hP hD hS 0 rfl rfl 1 (by decide) (hts (.fieldLink RX7 15 "HookPier$Reader" "fed" "I") (List.mem_of_getElem? (i := 1) rfl)) (fun _ h9 => h9) rfl (by decide +kernel) rfl rfl (Nat.le_of_ble_eq_true rfl) dX7_put_39 (fun H locs hP hD hS => ?_)
  have hP : va_P (dC, dI) vwCl [(a0, .inr (5, [.ref a2, .int 15, g3, g4, g5, g6, g7, g8, g9, g10, g11, g12])), (a2, .inl (cB13, 900, .inl f17))] H := hP
  have hD : va_D A [(a0, .inr (5, [.ref a2, .int 15, g3, g4, g5, g6, g7, g8, g9, g10, g11, g12])), (a2, .inl (cB13, 900, .inl f17))] := hD
  refine lv_iinc (v := 0) (lv' := [(2, .int 0), (0, .ref a0), (1, .int k1)]) hx hb dX7_put_42 hl (k := 0) rfl (by decide) (by decide) rfl (fun ls hl => ?_)
  refine lv_goto (tgt := 3) hx hb dX7_put_45 (by decide) ?_
  refine lv_iload_n hx hb dX7_put_3 rfl (lv_at hl 0 rfl) ?_
  refine lv_if_lt (tgt := 48) hx hb dX7_put_4 (by decide) (fun c19 => absurd c19 (by decide)) (fun _ => ?_)
  refine lv_aload_n hx hb dX7_put_7 rfl (lv_at hl 1 rfl) ?_
  refine va_get (D := (dC, dI)) (ci := 5) (v := .int 15) (C := RX7) (T := TX7) (N := 12) hx hb hts iX7_put_3_X7 hown hK hP 0 rfl rfl 1 (by decide) (hts (.fieldLink RX7 15 "HookPier$Reader" "fed" "I") (List.mem_of_getElem? (i := 1) rfl)) (fun _ h9 => h9) rfl dX7_put_8 ?_
  refine lv_aload_n hx hb dX7_put_11 rfl (lv_at hl 1 rfl) ?_
  refine va_get (D := (dC, dI)) (ci := 5) (v := .ref a2) (C := RX7) (T := TX7) (N := 12) hx hb hts iX7_put_3_X7 hown hK hP 0 rfl rfl 0 (by decide) (hts (.fieldLink RX7 9 "HookPier$Reader" "text" "[B") (List.mem_of_getElem? (i := 2) rfl)) (fun _ h9 => h9) rfl dX7_put_12 ?_
  refine va_alen (v := 900) hx hb hK hP 1 0 rfl rfl rfl dX7_put_15 ?_
  refine lv_icmp_ge (tgt := 48) hx hb dX7_put_16 (by decide) (fun c20 => absurd c20 (by decide)) (fun _ => ?_)
  refine lv_aload_n hx hb dX7_put_19 rfl (lv_at hl 1 rfl) ?_
  refine va_get (D := (dC, dI)) (ci := 5) (v := .ref a2) (C := RX7) (T := TX7) (N := 12) hx hb hts iX7_put_3_X7 hown hK hP 0 rfl rfl 0 (by decide) (hts (.fieldLink RX7 9 "HookPier$Reader" "text" "[B") (List.mem_of_getElem? (i := 2) rfl)) (fun _ h9 => h9) rfl dX7_put_20 ?_
  refine lv_aload_n hx hb dX7_put_23 rfl (lv_at hl 1 rfl) ?_
  refine va_get (D := (dC, dI)) (ci := 5) (v := .int 15) (C := RX7) (T := TX7) (N := 12) hx hb hts iX7_put_3_X7 hown hK hP 0 rfl rfl 1 (by decide) (hts (.fieldLink RX7 15 "HookPier$Reader" "fed" "I") (List.mem_of_getElem? (i := 1) rfl)) (fun _ h9 => h9) rfl dX7_put_24 ?_
  refine lv_iload_n hx hb dX7_put_27 rfl (lv_at hl 2 rfl) ?_
  refine lv_iload_n hx hb dX7_put_28 rfl (lv_at hl 0 rfl) ?_
  refine lv_ishr hx hb dX7_put_29 ?_
  refine lv_topi (fun z21 _ => ?_)
  refine lv_i2b hx hb dX7_put_30 rfl ?_
  refine lv_topi (fun z22 _ => ?_)
  refine va_bast hx hb hK hP hD hS 1 0 rfl rfl (by unfold vp_in; decide) dX7_put_31 (fun H locs hP hD hS => ?_)
  have hP : va_P (dC, dI) vwCl [(a0, .inr (5, [.ref a2, .int 15, g3, g4, g5, g6, g7, g8, g9, g10, g11, g12])), (a2, .inl (cB13, 900, .inl (upd f17 (15 : Int32).toNatClampNeg (vp_nar .byte z22))))] H := hP
  have hD : va_D A [(a0, .inr (5, [.ref a2, .int 15, g3, g4, g5, g6, g7, g8, g9, g10, g11, g12])), (a2, .inl (cB13, 900, .inl (upd f17 (15 : Int32).toNatClampNeg (vp_nar .byte z22))))] := hD
  generalize upd f17 (15 : Int32).toNatClampNeg (vp_nar .byte z22) = f23 at hP hD
  refine lv_aload_n hx hb dX7_put_32 rfl (lv_at hl 1 rfl) ?_
  refine lv_dup hx hb dX7_put_33 rfl ?_
  refine va_get (D := (dC, dI)) (ci := 5) (v := .int 15) (C := RX7) (T := TX7) (N := 12) hx hb hts iX7_put_3_X7 hown hK hP 0 rfl rfl 1 (by decide) (hts (.fieldLink RX7 15 "HookPier$Reader" "fed" "I") (List.mem_of_getElem? (i := 1) rfl)) (fun _ h9 => h9) rfl dX7_put_34 ?_
  refine lv_iconst (v := 1) hx hb dX7_put_37 (by decide) ?_
  refine lv_iadd hx hb dX7_put_38 ?_
  refine lv_topi (fun z24 ez24 => ?_)
  obtain rfl : z24 = 16 := ez24.trans (by decide)
  refine va_put (D := (dC, dI)) (ci := 5) (v := .int 16) (ty := .int) (C := RX7) (T := TX7) (N := 12) hx hb hts iX7_put_3_X7 tyX7 tyX7_ok nmX7 hown hK hP hD hS 0 rfl rfl 1 (by decide) (hts (.fieldLink RX7 15 "HookPier$Reader" "fed" "I") (List.mem_of_getElem? (i := 1) rfl)) (fun _ h9 => h9) rfl (by decide +kernel) rfl rfl (Nat.le_of_ble_eq_true rfl) dX7_put_39 (fun H locs hP hD hS => ?_)
  have hP : va_P (dC, dI) vwCl [(a0, .inr (5, [.ref a2, .int 16, g3, g4, g5, g6, g7, g8, g9, g10, g11, g12])), (a2, .inl (cB13, 900, .inl f23))] H := hP
  have hD : va_D A [(a0, .inr (5, [.ref a2, .int 16, g3, g4, g5, g6, g7, g8, g9, g10, g11, g12])), (a2, .inl (cB13, 900, .inl f23))] := hD
  refine lv_iinc (v := (-8)) (lv' := [(2, .int (-8)), (0, .ref a0), (1, .int k1)]) hx hb dX7_put_42 hl (k := 0) rfl (by decide) (by decide) rfl (fun ls hl => ?_)
  refine lv_goto (tgt := 3) hx hb dX7_put_45 (by decide) ?_
  refine lv_iload_n hx hb dX7_put_3 rfl (lv_at hl 0 rfl) ?_
  refine lv_if_lt (tgt := 48) hx hb dX7_put_4 (by decide) (fun _ => ?_) (fun c25 => absurd c25 (by decide))
  have hP9 := hP.sub (ws' := [(a0, .inr (5, [.ref a2, .int 16, g3, g4, g5, g6, g7, g8, g9, g10, g11, g12])), (a2, .inl (cB13, 900, .inl f23))]) [0, 1] rfl
  have hD9 := hD.sub (ws' := [(a0, .inr (5, [.ref a2, .int 16, g3, g4, g5, g6, g7, g8, g9, g10, g11, g12])), (a2, .inl (cB13, 900, .inl f23))]) [0, 1] (by decide) rfl
  have hK9 := hK.sub (tys' := []) [] rfl
  exact W.vret hx hb hr (fun t ht hW => ⟨⟨f23, rfl, trivial, by rw [ht]; exact hP9, va_K.moved hW.alike hK9, hD9⟩, hS.F ht⟩) hS.2.2 dX7_put_48
def vX7_put_4 : List Cond := .code yX7_put cX7_put 3 none :: ([.fieldLink RX7 15 "HookPier$Reader" "fed" "I", .fieldLink RX7 9 "HookPier$Reader" "text" "[B"] ++ wsX70)
theorem iX7_put_4_X7 : ∀ w ∈ wsX70, w ∈ vX7_put_4 := fun _ h => List.mem_cons_of_mem _ (List.mem_append_right _ h)
set_option maxHeartbeats 1000000 in
set_option maxRecDepth 100000 in
theorem kX7_put_4 (l : Launch) (dC : Nat → ClassId) (dI : Nat → Nat → Nat) (a0 : Nat) (k1 : Int32) (a2 : Nat) (g3 : Value) (g4 : Value) (g5 : Value) (g6 : Value) (g7 : Value) (g8 : Value) (g9 : Value) (g10 : Value) (g11 : Value) (g12 : Value) (cB13 : ClassId) (f14 : Nat → Int32) (sz : Nat) : Met l yX7_put vX7_put_4 ({ frames := 0, cells := 0, slots := 0, locals := 0 }) (PC (dC, dI) [.ref a0, .int k1] sz [(a0, .inr (5, [.ref a2, .int 16, g3, g4, g5, g6, g7, g8, g9, g10, g11, g12])), (a2, .inl (cB13, 900, .inl f14))] [(cB13, .byte)]) (va_Qv (S := (Nat → Int32)) (fun _ => True) (fun u t => BC (dC, dI) (va_A [(a0, .inr (5, [.ref a2, .int 16, g3, g4, g5, g6, g7, g8, g9, g10, g11, g12])), (a2, .inl (cB13, 900, .inl f14))] sz) [(a0, .inr (5, [.ref a2, .int 20, g3, g4, g5, g6, g7, g8, g9, g10, g11, g12])), (a2, .inl (cB13, 900, .inl u))] [] t) (va_A [(a0, .inr (5, [.ref a2, .int 16, g3, g4, g5, g6, g7, g8, g9, g10, g11, g12])), (a2, .inl (cB13, 900, .inl f14))] sz)) 0 0 (va_A [(a0, .inr (5, [.ref a2, .int 16, g3, g4, g5, g6, g7, g8, g9, g10, g11, g12])), (a2, .inl (cB13, 900, .inl f14))] sz) := by
  refine Met.ofW (cc := cX7_put) (maxL := 3) (ret := none) (by decide) rfl ?_
  intro p e s m args below meth c s₁ B hml hv
  obtain ⟨rfl, hsz, hP, hK, hD0, hN⟩ := hv
  have hx := B.exec
  have hb := B.bytes
  have hr := B.returns
  have hts := atoms_spec (ws := vX7_put_4) B.pre
  have hown : s.vm.findClass RX7 = some m.cls := findClass_of_methodNamed B.named
  have hlocks := B.notSynchronized
  subst hsz
  have hD := hD0.self (sz := s.heap.size)
  generalize hAe : va_A [(a0, .inr (5, [.ref a2, .int 16, g3, g4, g5, g6, g7, g8, g9, g10, g11, g12])), (a2, .inl (cB13, 900, .inl f14))] s.heap.size = A at hD ⊢
  have hA : ∀ q : Nat, s.heap.size ≤ q → A q := fun q h => by rw [← hAe]; exact Or.inr h
  have hS : va_S A s.heap s.heap [] := va_S.rf
  have hP : va_P (dC, dI) vwCl [(a0, .inr (5, [.ref a2, .int 16, g3, g4, g5, g6, g7, g8, g9, g10, g11, g12])), (a2, .inl (cB13, 900, .inl f14))] s.heap := hP
  have hl := lv_entry ([.ref a0, .int k1]) (n := 3) (Nat.le_of_ble_eq_true rfl)
  rw [lg_entry_eq]
  generalize (lg_sl ([.ref a0, .int k1]) ++ List.replicate (3 - (lg_sl ([.ref a0, .int k1])).length) Slot.unset).toArray = ls at hl ⊢
  have hl : lv_has ls 3 [(0, .ref a0), (1, .int k1)] := hl
  refine lv_bipush (v := 24) hx hb dX7_put_0 (by decide) ?_
  refine lv_istore_n (lv' := [(2, .int 24), (0, .ref a0), (1, .int k1)]) hx hb dX7_put_2 rfl hl (by decide) rfl (fun ls hl => ?_)
  refine lv_iload_n hx hb dX7_put_3 rfl (lv_at hl 0 rfl) ?_
  refine lv_if_lt (tgt := 48) hx hb dX7_put_4 (by decide) (fun c1 => absurd c1 (by decide)) (fun _ => ?_)
  refine lv_aload_n hx hb dX7_put_7 rfl (lv_at hl 1 rfl) ?_
  refine va_get (D := (dC, dI)) (ci := 5) (v := .int 16) (C := RX7) (T := TX7) (N := 12) hx hb hts iX7_put_4_X7 hown hK hP 0 rfl rfl 1 (by decide) (hts (.fieldLink RX7 15 "HookPier$Reader" "fed" "I") (List.mem_of_getElem? (i := 1) rfl)) (fun _ h9 => h9) rfl dX7_put_8 ?_
  refine lv_aload_n hx hb dX7_put_11 rfl (lv_at hl 1 rfl) ?_
  refine va_get (D := (dC, dI)) (ci := 5) (v := .ref a2) (C := RX7) (T := TX7) (N := 12) hx hb hts iX7_put_4_X7 hown hK hP 0 rfl rfl 0 (by decide) (hts (.fieldLink RX7 9 "HookPier$Reader" "text" "[B") (List.mem_of_getElem? (i := 2) rfl)) (fun _ h9 => h9) rfl dX7_put_12 ?_
  refine va_alen (v := 900) hx hb hK hP 1 0 rfl rfl rfl dX7_put_15 ?_
  refine lv_icmp_ge (tgt := 48) hx hb dX7_put_16 (by decide) (fun c2 => absurd c2 (by decide)) (fun _ => ?_)
  refine lv_aload_n hx hb dX7_put_19 rfl (lv_at hl 1 rfl) ?_
  refine va_get (D := (dC, dI)) (ci := 5) (v := .ref a2) (C := RX7) (T := TX7) (N := 12) hx hb hts iX7_put_4_X7 hown hK hP 0 rfl rfl 0 (by decide) (hts (.fieldLink RX7 9 "HookPier$Reader" "text" "[B") (List.mem_of_getElem? (i := 2) rfl)) (fun _ h9 => h9) rfl dX7_put_20 ?_
  refine lv_aload_n hx hb dX7_put_23 rfl (lv_at hl 1 rfl) ?_
  refine va_get (D := (dC, dI)) (ci := 5) (v := .int 16) (C := RX7) (T := TX7) (N := 12) hx hb hts iX7_put_4_X7 hown hK hP 0 rfl rfl 1 (by decide) (hts (.fieldLink RX7 15 "HookPier$Reader" "fed" "I") (List.mem_of_getElem? (i := 1) rfl)) (fun _ h9 => h9) rfl dX7_put_24 ?_
  refine lv_iload_n hx hb dX7_put_27 rfl (lv_at hl 2 rfl) ?_
  refine lv_iload_n hx hb dX7_put_28 rfl (lv_at hl 0 rfl) ?_
  refine lv_ishr hx hb dX7_put_29 ?_
  refine lv_topi (fun z3 _ => ?_)
  refine lv_i2b hx hb dX7_put_30 rfl ?_
  refine lv_topi (fun z4 _ => ?_)
  refine va_bast hx hb hK hP hD hS 1 0 rfl rfl (by unfold vp_in; decide) dX7_put_31 (fun H locs hP hD hS => ?_)
  have hP : va_P (dC, dI) vwCl [(a0, .inr (5, [.ref a2, .int 16, g3, g4, g5, g6, g7, g8, g9, g10, g11, g12])), (a2, .inl (cB13, 900, .inl (upd f14 (16 : Int32).toNatClampNeg (vp_nar .byte z4))))] H := hP
  have hD : va_D A [(a0, .inr (5, [.ref a2, .int 16, g3, g4, g5, g6, g7, g8, g9, g10, g11, g12])), (a2, .inl (cB13, 900, .inl (upd f14 (16 : Int32).toNatClampNeg (vp_nar .byte z4))))] := hD
  generalize upd f14 (16 : Int32).toNatClampNeg (vp_nar .byte z4) = f5 at hP hD
  refine lv_aload_n hx hb dX7_put_32 rfl (lv_at hl 1 rfl) ?_
  refine lv_dup hx hb dX7_put_33 rfl ?_
  refine va_get (D := (dC, dI)) (ci := 5) (v := .int 16) (C := RX7) (T := TX7) (N := 12) hx hb hts iX7_put_4_X7 hown hK hP 0 rfl rfl 1 (by decide) (hts (.fieldLink RX7 15 "HookPier$Reader" "fed" "I") (List.mem_of_getElem? (i := 1) rfl)) (fun _ h9 => h9) rfl dX7_put_34 ?_
  refine lv_iconst (v := 1) hx hb dX7_put_37 (by decide) ?_
  refine lv_iadd hx hb dX7_put_38 ?_
  refine lv_topi (fun z6 ez6 => ?_)
  obtain rfl : z6 = 17 := ez6.trans (by decide)
  refine va_put (D := (dC, dI)) (ci := 5) (v := .int 17) (ty := .int) (C := RX7) (T := TX7) (N := 12) hx hb hts iX7_put_4_X7 tyX7 tyX7_ok nmX7 hown hK hP hD hS 0 rfl rfl 1 (by decide) (hts (.fieldLink RX7 15 "HookPier$Reader" "fed" "I") (List.mem_of_getElem? (i := 1) rfl)) (fun _ h9 => h9) rfl (by decide +kernel) rfl rfl (Nat.le_of_ble_eq_true rfl) dX7_put_39 (fun H locs hP hD hS => ?_)
  have hP : va_P (dC, dI) vwCl [(a0, .inr (5, [.ref a2, .int 17, g3, g4, g5, g6, g7, g8, g9, g10, g11, g12])), (a2, .inl (cB13, 900, .inl f5))] H := hP
  have hD : va_D A [(a0, .inr (5, [.ref a2, .int 17, g3, g4, g5, g6, g7, g8, g9, g10, g11, g12])), (a2, .inl (cB13, 900, .inl f5))] := hD
  refine lv_iinc (v := 16) (lv' := [(2, .int 16), (0, .ref a0), (1, .int k1)]) hx hb dX7_put_42 hl (k := 0) rfl (by decide) (by decide) rfl (fun ls hl => ?_)
  refine lv_goto (tgt := 3) hx hb dX7_put_45 (by decide) ?_
  refine lv_iload_n hx hb dX7_put_3 rfl (lv_at hl 0 rfl) ?_
  refine lv_if_lt (tgt := 48) hx hb dX7_put_4 (by decide) (fun c7 => absurd c7 (by decide)) (fun _ => ?_)
  refine lv_aload_n hx hb dX7_put_7 rfl (lv_at hl 1 rfl) ?_
  refine va_get (D := (dC, dI)) (ci := 5) (v := .int 17) (C := RX7) (T := TX7) (N := 12) hx hb hts iX7_put_4_X7 hown hK hP 0 rfl rfl 1 (by decide) (hts (.fieldLink RX7 15 "HookPier$Reader" "fed" "I") (List.mem_of_getElem? (i := 1) rfl)) (fun _ h9 => h9) rfl dX7_put_8 ?_
  refine lv_aload_n hx hb dX7_put_11 rfl (lv_at hl 1 rfl) ?_
  refine va_get (D := (dC, dI)) (ci := 5) (v := .ref a2) (C := RX7) (T := TX7) (N := 12) hx hb hts iX7_put_4_X7 hown hK hP 0 rfl rfl 0 (by decide) (hts (.fieldLink RX7 9 "HookPier$Reader" "text" "[B") (List.mem_of_getElem? (i := 2) rfl)) (fun _ h9 => h9) rfl dX7_put_12 ?_
  refine va_alen (v := 900) hx hb hK hP 1 0 rfl rfl rfl dX7_put_15 ?_
  refine lv_icmp_ge (tgt := 48) hx hb dX7_put_16 (by decide) (fun c8 => absurd c8 (by decide)) (fun _ => ?_)
  refine lv_aload_n hx hb dX7_put_19 rfl (lv_at hl 1 rfl) ?_
  refine va_get (D := (dC, dI)) (ci := 5) (v := .ref a2) (C := RX7) (T := TX7) (N := 12) hx hb hts iX7_put_4_X7 hown hK hP 0 rfl rfl 0 (by decide) (hts (.fieldLink RX7 9 "HookPier$Reader" "text" "[B") (List.mem_of_getElem? (i := 2) rfl)) (fun _ h9 => h9) rfl dX7_put_20 ?_
  refine lv_aload_n hx hb dX7_put_23 rfl (lv_at hl 1 rfl) ?_
  refine va_get (D := (dC, dI)) (ci := 5) (v := .int 17) (C := RX7) (T := TX7) (N := 12) hx hb hts iX7_put_4_X7 hown hK hP 0 rfl rfl 1 (by decide) (hts (.fieldLink RX7 15 "HookPier$Reader" "fed" "I") (List.mem_of_getElem? (i := 1) rfl)) (fun _ h9 => h9) rfl dX7_put_24 ?_
  refine lv_iload_n hx hb dX7_put_27 rfl (lv_at hl 2 rfl) ?_
  refine lv_iload_n hx hb dX7_put_28 rfl (lv_at hl 0 rfl) ?_
  refine lv_ishr hx hb dX7_put_29 ?_
  refine lv_topi (fun z9 _ => ?_)
  refine lv_i2b hx hb dX7_put_30 rfl ?_
  refine lv_topi (fun z10 _ => ?_)
  refine va_bast hx hb hK hP hD hS 1 0 rfl rfl (by unfold vp_in; decide) dX7_put_31 (fun H locs hP hD hS => ?_)
  have hP : va_P (dC, dI) vwCl [(a0, .inr (5, [.ref a2, .int 17, g3, g4, g5, g6, g7, g8, g9, g10, g11, g12])), (a2, .inl (cB13, 900, .inl (upd f5 (17 : Int32).toNatClampNeg (vp_nar .byte z10))))] H := hP
  have hD : va_D A [(a0, .inr (5, [.ref a2, .int 17, g3, g4, g5, g6, g7, g8, g9, g10, g11, g12])), (a2, .inl (cB13, 900, .inl (upd f5 (17 : Int32).toNatClampNeg (vp_nar .byte z10))))] := hD
  generalize upd f5 (17 : Int32).toNatClampNeg (vp_nar .byte z10) = f11 at hP hD
  refine lv_aload_n hx hb dX7_put_32 rfl (lv_at hl 1 rfl) ?_
  refine lv_dup hx hb dX7_put_33 rfl ?_
  refine va_get (D := (dC, dI)) (ci := 5) (v := .int 17) (C := RX7) (T := TX7) (N := 12) hx hb hts iX7_put_4_X7 hown hK hP 0 rfl rfl 1 (by decide) (hts (.fieldLink RX7 15 "HookPier$Reader" "fed" "I") (List.mem_of_getElem? (i := 1) rfl)) (fun _ h9 => h9) rfl dX7_put_34 ?_
  refine lv_iconst (v := 1) hx hb dX7_put_37 (by decide) ?_
  refine lv_iadd hx hb dX7_put_38 ?_
  refine lv_topi (fun z12 ez12 => ?_)
  obtain rfl : z12 = 18 := ez12.trans (by decide)
  refine va_put (D := (dC, dI)) (ci := 5) (v := .int 18) (ty := .int) (C := RX7) (T := TX7) (N := 12) hx hb hts iX7_put_4_X7 tyX7 tyX7_ok nmX7 hown hK hP hD hS 0 rfl rfl 1 (by decide) (hts (.fieldLink RX7 15 "HookPier$Reader" "fed" "I") (List.mem_of_getElem? (i := 1) rfl)) (fun _ h9 => h9) rfl (by decide +kernel) rfl rfl (Nat.le_of_ble_eq_true rfl) dX7_put_39 (fun H locs hP hD hS => ?_)
  have hP : va_P (dC, dI) vwCl [(a0, .inr (5, [.ref a2, .int 18, g3, g4, g5, g6, g7, g8, g9, g10, g11, g12])), (a2, .inl (cB13, 900, .inl f11))] H := hP
  have hD : va_D A [(a0, .inr (5, [.ref a2, .int 18, g3, g4, g5, g6, g7, g8, g9, g10, g11, g12])), (a2, .inl (cB13, 900, .inl f11))] := hD
  refine lv_iinc (v := 8) (lv' := [(2, .int 8), (0, .ref a0), (1, .int k1)]) hx hb dX7_put_42 hl (k := 0) rfl (by decide) (by decide) rfl (fun ls hl => ?_)
  refine lv_goto (tgt := 3) hx hb dX7_put_45 (by decide) ?_
  refine lv_iload_n hx hb dX7_put_3 rfl (lv_at hl 0 rfl) ?_
  refine lv_if_lt (tgt := 48) hx hb dX7_put_4 (by decide) (fun c13 => absurd c13 (by decide)) (fun _ => ?_)
  refine lv_aload_n hx hb dX7_put_7 rfl (lv_at hl 1 rfl) ?_
  refine va_get (D := (dC, dI)) (ci := 5) (v := .int 18) (C := RX7) (T := TX7) (N := 12) hx hb hts iX7_put_4_X7 hown hK hP 0 rfl rfl 1 (by decide) (hts (.fieldLink RX7 15 "HookPier$Reader" "fed" "I") (List.mem_of_getElem? (i := 1) rfl)) (fun _ h9 => h9) rfl dX7_put_8 ?_
  refine lv_aload_n hx hb dX7_put_11 rfl (lv_at hl 1 rfl) ?_
  refine va_get (D := (dC, dI)) (ci := 5) (v := .ref a2) (C := RX7) (T := TX7) (N := 12) hx hb hts iX7_put_4_X7 hown hK hP 0 rfl rfl 0 (by decide) (hts (.fieldLink RX7 9 "HookPier$Reader" "text" "[B") (List.mem_of_getElem? (i := 2) rfl)) (fun _ h9 => h9) rfl dX7_put_12 ?_
  refine va_alen (v := 900) hx hb hK hP 1 0 rfl rfl rfl dX7_put_15 ?_
  refine lv_icmp_ge (tgt := 48) hx hb dX7_put_16 (by decide) (fun c14 => absurd c14 (by decide)) (fun _ => ?_)
  refine lv_aload_n hx hb dX7_put_19 rfl (lv_at hl 1 rfl) ?_
  refine va_get (D := (dC, dI)) (ci := 5) (v := .ref a2) (C := RX7) (T := TX7) (N := 12) hx hb hts iX7_put_4_X7 hown hK hP 0 rfl rfl 0 (by decide) (hts (.fieldLink RX7 9 "HookPier$Reader" "text" "[B") (List.mem_of_getElem? (i := 2) rfl)) (fun _ h9 => h9) rfl dX7_put_20 ?_
  refine lv_aload_n hx hb dX7_put_23 rfl (lv_at hl 1 rfl) ?_
  refine va_get (D := (dC, dI)) (ci := 5) (v := .int 18) (C := RX7) (T := TX7) (N := 12) hx hb hts iX7_put_4_X7 hown hK hP 0 rfl rfl 1 (by decide) (hts (.fieldLink RX7 15 "HookPier$Reader" "fed" "I") (List.mem_of_getElem? (i := 1) rfl)) (fun _ h9 => h9) rfl dX7_put_24 ?_
  refine lv_iload_n hx hb dX7_put_27 rfl (lv_at hl 2 rfl) ?_
  refine lv_iload_n hx hb dX7_put_28 rfl (lv_at hl 0 rfl) ?_
  refine lv_ishr hx hb dX7_put_29 ?_
  refine lv_topi (fun z15 _ => ?_)
  refine lv_i2b hx hb dX7_put_30 rfl ?_
  refine lv_topi (fun z16 _ => ?_)
  refine va_bast hx hb hK hP hD hS 1 0 rfl rfl (by unfold vp_in; decide) dX7_put_31 (fun H locs hP hD hS => ?_)
  have hP : va_P (dC, dI) vwCl [(a0, .inr (5, [.ref a2, .int 18, g3, g4, g5, g6, g7, g8, g9, g10, g11, g12])), (a2, .inl (cB13, 900, .inl (upd f11 (18 : Int32).toNatClampNeg (vp_nar .byte z16))))] H := hP
  have hD : va_D A [(a0, .inr (5, [.ref a2, .int 18, g3, g4, g5, g6, g7, g8, g9, g10, g11, g12])), (a2, .inl (cB13, 900, .inl (upd f11 (18 : Int32).toNatClampNeg (vp_nar .byte z16))))] := hD
  generalize upd f11 (18 : Int32).toNatClampNeg (vp_nar .byte z16) = f17 at hP hD
  refine lv_aload_n hx hb dX7_put_32 rfl (lv_at hl 1 rfl) ?_
  refine lv_dup hx hb dX7_put_33 rfl ?_
  refine va_get (D := (dC, dI)) (ci := 5) (v := .int 18) (C := RX7) (T := TX7) (N := 12) hx hb hts iX7_put_4_X7 hown hK hP 0 rfl rfl 1 (by decide) (hts (.fieldLink RX7 15 "HookPier$Reader" "fed" "I") (List.mem_of_getElem? (i := 1) rfl)) (fun _ h9 => h9) rfl dX7_put_34 ?_
  refine lv_iconst (v := 1) hx hb dX7_put_37 (by decide) ?_
  refine lv_iadd hx hb dX7_put_38 ?_
  refine lv_topi (fun z18 ez18 => ?_)
  obtain rfl : z18 = 19 := ez18.trans (by decide)
  refine va_put (D := (dC, dI)) (ci := 5) (v := .int 19) (ty := .int) (C := RX7) (T := TX7) (N := 12) hx hb hts iX7_put_4_X7 tyX7 tyX7_ok nmX7 hown hK hP hD hS 0 rfl rfl 1 (by decide) (hts (.fieldLink RX7 15 "HookPier$Reader" "fed" "I") (List.mem_of_getElem? (i := 1) rfl)) (fun _ h9 => h9) rfl (by decide +kernel) rfl rfl (Nat.le_of_ble_eq_true rfl) dX7_put_39 (fun H locs hP hD hS => ?_)
  have hP : va_P (dC, dI) vwCl [(a0, .inr (5, [.ref a2, .int 19, g3, g4, g5, g6, g7, g8, g9, g10, g11, g12])), (a2, .inl (cB13, 900, .inl f17))] H := hP
  have hD : va_D A [(a0, .inr (5, [.ref a2, .int 19, g3, g4, g5, g6, g7, g8, g9, g10, g11, g12])), (a2, .inl (cB13, 900, .inl f17))] := hD
  refine lv_iinc (v := 0) (lv' := [(2, .int 0), (0, .ref a0), (1, .int k1)]) hx hb dX7_put_42 hl (k := 0) rfl (by decide) (by decide) rfl (fun ls hl => ?_)
  refine lv_goto (tgt := 3) hx hb dX7_put_45 (by decide) ?_
  refine lv_iload_n hx hb dX7_put_3 rfl (lv_at hl 0 rfl) ?_
  refine lv_if_lt (tgt := 48) hx hb dX7_put_4 (by decide) (fun c19 => absurd c19 (by decide)) (fun _ => ?_)
  refine lv_aload_n hx hb dX7_put_7 rfl (lv_at hl 1 rfl) ?_
  refine va_get (D := (dC, dI)) (ci := 5) (v := .int 19) (C := RX7) (T := TX7) (N := 12) hx hb hts iX7_put_4_X7 hown hK hP 0 rfl rfl 1 (by decide) (hts (.fieldLink RX7 15 "HookPier$Reader" "fed" "I") (List.mem_of_getElem? (i := 1) rfl)) (fun _ h9 => h9) rfl dX7_put_8 ?_
  refine lv_aload_n hx hb dX7_put_11 rfl (lv_at hl 1 rfl) ?_
  refine va_get (D := (dC, dI)) (ci := 5) (v := .ref a2) (C := RX7) (T := TX7) (N := 12) hx hb hts iX7_put_4_X7 hown hK hP 0 rfl rfl 0 (by decide) (hts (.fieldLink RX7 9 "HookPier$Reader" "text" "[B") (List.mem_of_getElem? (i := 2) rfl)) (fun _ h9 => h9) rfl dX7_put_12 ?_
  refine va_alen (v := 900) hx hb hK hP 1 0 rfl rfl rfl dX7_put_15 ?_
  refine lv_icmp_ge (tgt := 48) hx hb dX7_put_16 (by decide) (fun c20 => absurd c20 (by decide)) (fun _ => ?_)
  refine lv_aload_n hx hb dX7_put_19 rfl (lv_at hl 1 rfl) ?_
  refine va_get (D := (dC, dI)) (ci := 5) (v := .ref a2) (C := RX7) (T := TX7) (N := 12) hx hb hts iX7_put_4_X7 hown hK hP 0 rfl rfl 0 (by decide) (hts (.fieldLink RX7 9 "HookPier$Reader" "text" "[B") (List.mem_of_getElem? (i := 2) rfl)) (fun _ h9 => h9) rfl dX7_put_20 ?_
  refine lv_aload_n hx hb dX7_put_23 rfl (lv_at hl 1 rfl) ?_
  refine va_get (D := (dC, dI)) (ci := 5) (v := .int 19) (C := RX7) (T := TX7) (N := 12) hx hb hts iX7_put_4_X7 hown hK hP 0 rfl rfl 1 (by decide) (hts (.fieldLink RX7 15 "HookPier$Reader" "fed" "I") (List.mem_of_getElem? (i := 1) rfl)) (fun _ h9 => h9) rfl dX7_put_24 ?_
  refine lv_iload_n hx hb dX7_put_27 rfl (lv_at hl 2 rfl) ?_
  refine lv_iload_n hx hb dX7_put_28 rfl (lv_at hl 0 rfl) ?_
  refine lv_ishr hx hb dX7_put_29 ?_
  refine lv_topi (fun z21 _ => ?_)
  refine lv_i2b hx hb dX7_put_30 rfl ?_
  refine lv_topi (fun z22 _ => ?_)
  refine va_bast hx hb hK hP hD hS 1 0 rfl rfl (by unfold vp_in; decide) dX7_put_31 (fun H locs hP hD hS => ?_)
  have hP : va_P (dC, dI) vwCl [(a0, .inr (5, [.ref a2, .int 19, g3, g4, g5, g6, g7, g8, g9, g10, g11, g12])), (a2, .inl (cB13, 900, .inl (upd f17 (19 : Int32).toNatClampNeg (vp_nar .byte z22))))] H := hP
  have hD : va_D A [(a0, .inr (5, [.ref a2, .int 19, g3, g4, g5, g6, g7, g8, g9, g10, g11, g12])), (a2, .inl (cB13, 900, .inl (upd f17 (19 : Int32).toNatClampNeg (vp_nar .byte z22))))] := hD
  generalize upd f17 (19 : Int32).toNatClampNeg (vp_nar .byte z22) = f23 at hP hD
  refine lv_aload_n hx hb dX7_put_32 rfl (lv_at hl 1 rfl) ?_
  refine lv_dup hx hb dX7_put_33 rfl ?_
  refine va_get (D := (dC, dI)) (ci := 5) (v := .int 19) (C := RX7) (T := TX7) (N := 12) hx hb hts iX7_put_4_X7 hown hK hP 0 rfl rfl 1 (by decide) (hts (.fieldLink RX7 15 "HookPier$Reader" "fed" "I") (List.mem_of_getElem? (i := 1) rfl)) (fun _ h9 => h9) rfl dX7_put_34 ?_
  refine lv_iconst (v := 1) hx hb dX7_put_37 (by decide) ?_
  refine lv_iadd hx hb dX7_put_38 ?_
  refine lv_topi (fun z24 ez24 => ?_)
  obtain rfl : z24 = 20 := ez24.trans (by decide)
  refine va_put (D := (dC, dI)) (ci := 5) (v := .int 20) (ty := .int) (C := RX7) (T := TX7) (N := 12) hx hb hts iX7_put_4_X7 tyX7 tyX7_ok nmX7 hown hK hP hD hS 0 rfl rfl 1 (by decide) (hts (.fieldLink RX7 15 "HookPier$Reader" "fed" "I") (List.mem_of_getElem? (i := 1) rfl)) (fun _ h9 => h9) rfl (by decide +kernel) rfl rfl (Nat.le_of_ble_eq_true rfl) dX7_put_39 (fun H locs hP hD hS => ?_)
  have hP : va_P (dC, dI) vwCl [(a0, .inr (5, [.ref a2, .int 20, g3, g4, g5, g6, g7, g8, g9, g10, g11, g12])), (a2, .inl (cB13, 900, .inl f23))] H := hP
  have hD : va_D A [(a0, .inr (5, [.ref a2, .int 20, g3, g4, g5, g6, g7, g8, g9, g10, g11, g12])), (a2, .inl (cB13, 900, .inl f23))] := hD
  refine lv_iinc (v := (-8)) (lv' := [(2, .int (-8)), (0, .ref a0), (1, .int k1)]) hx hb dX7_put_42 hl (k := 0) rfl (by decide) (by decide) rfl (fun ls hl => ?_)
  refine lv_goto (tgt := 3) hx hb dX7_put_45 (by decide) ?_
  refine lv_iload_n hx hb dX7_put_3 rfl (lv_at hl 0 rfl) ?_
  refine lv_if_lt (tgt := 48) hx hb dX7_put_4 (by decide) (fun _ => ?_) (fun c25 => absurd c25 (by decide))
  have hP9 := hP.sub (ws' := [(a0, .inr (5, [.ref a2, .int 20, g3, g4, g5, g6, g7, g8, g9, g10, g11, g12])), (a2, .inl (cB13, 900, .inl f23))]) [0, 1] rfl
  have hD9 := hD.sub (ws' := [(a0, .inr (5, [.ref a2, .int 20, g3, g4, g5, g6, g7, g8, g9, g10, g11, g12])), (a2, .inl (cB13, 900, .inl f23))]) [0, 1] (by decide) rfl
  have hK9 := hK.sub (tys' := []) [] rfl
  exact W.vret hx hb hr (fun t ht hW => ⟨⟨f23, rfl, trivial, by rw [ht]; exact hP9, va_K.moved hW.alike hK9, hD9⟩, hS.F ht⟩) hS.2.2 dX7_put_48
theorem dX10_feed_0 : decode cX10_feed 0 = .ok (.aload_n 0, 1) := by decide +kernel
theorem dX10_feed_1 : decode cX10_feed 1 = .ok (.getfield 22, 3) := by decide +kernel
theorem dX10_feed_10 : decode cX10_feed 10 = .ok (.sipush 900, 3) := by decide +kernel
theorem dX10_feed_13 : decode cX10_feed 13 = .ok (.if_icmp .le 5, 3) := by decide +kernel
theorem dX10_feed_18 : decode cX10_feed 18 = .ok (.aload_n 0, 1) := by decide +kernel
theorem dX10_feed_19 : decode cX10_feed 19 = .ok (.getfield 22, 3) := by decide +kernel
theorem dX10_feed_22 : decode cX10_feed 22 = .ok (.iload_n 1, 1) := by decide +kernel
theorem dX10_feed_23 : decode cX10_feed 23 = .ok (.invokevirtual 71, 3) := by decide +kernel
theorem dX10_feed_26 : decode cX10_feed 26 = .ok (.aload_n 0, 1) := by decide +kernel
theorem dX10_feed_27 : decode cX10_feed 27 = .ok (.getfield 22, 3) := by decide +kernel
theorem dX10_feed_30 : decode cX10_feed 30 = .ok (.iload_n 2, 1) := by decide +kernel
theorem dX10_feed_31 : decode cX10_feed 31 = .ok (.invokevirtual 71, 3) := by decide +kernel
theorem dX10_feed_34 : decode cX10_feed 34 = .ok (.aload_n 0, 1) := by decide +kernel
theorem dX10_feed_35 : decode cX10_feed 35 = .ok (.getfield 22, 3) := by decide +kernel
theorem dX10_feed_38 : decode cX10_feed 38 = .ok (.iload_n 3, 1) := by decide +kernel
theorem dX10_feed_39 : decode cX10_feed 39 = .ok (.invokevirtual 71, 3) := by decide +kernel
theorem dX10_feed_4 : decode cX10_feed 4 = .ok (.getfield 68, 3) := by decide +kernel
theorem dX10_feed_42 : decode cX10_feed 42 = .ok (.aload_n 0, 1) := by decide +kernel
theorem dX10_feed_43 : decode cX10_feed 43 = .ok (.getfield 22, 3) := by decide +kernel
theorem dX10_feed_46 : decode cX10_feed 46 = .ok (.iload 4, 2) := by decide +kernel
theorem dX10_feed_48 : decode cX10_feed 48 = .ok (.invokevirtual 71, 3) := by decide +kernel
theorem dX10_feed_51 : decode cX10_feed 51 = .ok (.aload_n 0, 1) := by decide +kernel
theorem dX10_feed_52 : decode cX10_feed 52 = .ok (.getfield 22, 3) := by decide +kernel
theorem dX10_feed_55 : decode cX10_feed 55 = .ok (.iload 5, 2) := by decide +kernel
theorem dX10_feed_57 : decode cX10_feed 57 = .ok (.invokevirtual 71, 3) := by decide +kernel
theorem dX10_feed_60 : decode cX10_feed 60 = .ok (.aload_n 0, 1) := by decide +kernel
theorem dX10_feed_61 : decode cX10_feed 61 = .ok (.getfield 22, 3) := by decide +kernel
theorem dX10_feed_64 : decode cX10_feed 64 = .ok (.getfield 68, 3) := by decide +kernel
theorem dX10_feed_67 : decode cX10_feed 67 = .ok (.ireturn, 1) := by decide +kernel
theorem dX10_feed_7 : decode cX10_feed 7 = .ok (.bipush 20, 2) := by decide +kernel
theorem dX10_feed_9 : decode cX10_feed 9 = .ok (.iadd, 1) := by decide +kernel
def vX10_feed : List Cond := .code yX10_feed cX10_feed 6 (some .int) :: ([.fieldLink RX10 22 "HookPier" "reader" "LHookPier$Reader;", .fieldLink RX10 68 "HookPier$Reader" "fed" "I", .methodLink RX10 71 yX7_put, .instanceMethod yX7_put, .selects RX7 yX7_put yX7_put, .initialized RX7, .code yX7_put cX7_put 3 none, .fieldLink RX7 15 "HookPier$Reader" "fed" "I", .fieldLink RX7 9 "HookPier$Reader" "text" "[B"] ++ wsX100 ++ wsX70)
theorem iX10_feed_X10 : ∀ w ∈ wsX100, w ∈ vX10_feed := fun _ h => List.mem_cons_of_mem _ (List.mem_append_left _ (List.mem_append_right _ h))
theorem iX10_feed_X7 : ∀ w ∈ wsX70, w ∈ vX10_feed := fun _ h => List.mem_cons_of_mem _ (List.mem_append_right _ h)
set_option maxRecDepth 20000 in
theorem gX10_feed_0 : GoodIn vX10_feed (wsV RX10 71 RX7 yX7_put vX7_put) := goodIn_app (goodIn_r [.methodLink RX10 71 yX7_put, .instanceMethod yX7_put, .selects RX7 yX7_put yX7_put, .initialized RX7] [3, 4, 5, 6] (by decide +kernel) (by decide +kernel)) (goodIn_ca (goodIn_r (.code yX7_put cX7_put 3 none :: [.fieldLink RX7 15 "HookPier$Reader" "fed" "I", .fieldLink RX7 9 "HookPier$Reader" "text" "[B"]) [7, 8, 9] (by decide +kernel) (by decide +kernel) : GoodIn vX10_feed (.code yX7_put cX7_put 3 none :: [.fieldLink RX7 15 "HookPier$Reader" "fed" "I", .fieldLink RX7 9 "HookPier$Reader" "text" "[B"])) (goodIn_sub iX10_feed_X7 (by decide +kernel)))
set_option maxRecDepth 20000 in
theorem gX10_feed_1 : GoodIn vX10_feed (wsV RX10 71 RX7 yX7_put vX7_put_1) := goodIn_app (goodIn_r [.methodLink RX10 71 yX7_put, .instanceMethod yX7_put, .selects RX7 yX7_put yX7_put, .initialized RX7] [3, 4, 5, 6] (by decide +kernel) (by decide +kernel)) (goodIn_ca (goodIn_r (.code yX7_put cX7_put 3 none :: [.fieldLink RX7 15 "HookPier$Reader" "fed" "I", .fieldLink RX7 9 "HookPier$Reader" "text" "[B"]) [7, 8, 9] (by decide +kernel) (by decide +kernel) : GoodIn vX10_feed (.code yX7_put cX7_put 3 none :: [.fieldLink RX7 15 "HookPier$Reader" "fed" "I", .fieldLink RX7 9 "HookPier$Reader" "text" "[B"])) (goodIn_sub iX10_feed_X7 (by decide +kernel)))
set_option maxRecDepth 20000 in
theorem gX10_feed_2 : GoodIn vX10_feed (wsV RX10 71 RX7 yX7_put vX7_put_2) := goodIn_app (goodIn_r [.methodLink RX10 71 yX7_put, .instanceMethod yX7_put, .selects RX7 yX7_put yX7_put, .initialized RX7] [3, 4, 5, 6] (by decide +kernel) (by decide +kernel)) (goodIn_ca (goodIn_r (.code yX7_put cX7_put 3 none :: [.fieldLink RX7 15 "HookPier$Reader" "fed" "I", .fieldLink RX7 9 "HookPier$Reader" "text" "[B"]) [7, 8, 9] (by decide +kernel) (by decide +kernel) : GoodIn vX10_feed (.code yX7_put cX7_put 3 none :: [.fieldLink RX7 15 "HookPier$Reader" "fed" "I", .fieldLink RX7 9 "HookPier$Reader" "text" "[B"])) (goodIn_sub iX10_feed_X7 (by decide +kernel)))
set_option maxRecDepth 20000 in
theorem gX10_feed_3 : GoodIn vX10_feed (wsV RX10 71 RX7 yX7_put vX7_put_3) := goodIn_app (goodIn_r [.methodLink RX10 71 yX7_put, .instanceMethod yX7_put, .selects RX7 yX7_put yX7_put, .initialized RX7] [3, 4, 5, 6] (by decide +kernel) (by decide +kernel)) (goodIn_ca (goodIn_r (.code yX7_put cX7_put 3 none :: [.fieldLink RX7 15 "HookPier$Reader" "fed" "I", .fieldLink RX7 9 "HookPier$Reader" "text" "[B"]) [7, 8, 9] (by decide +kernel) (by decide +kernel) : GoodIn vX10_feed (.code yX7_put cX7_put 3 none :: [.fieldLink RX7 15 "HookPier$Reader" "fed" "I", .fieldLink RX7 9 "HookPier$Reader" "text" "[B"])) (goodIn_sub iX10_feed_X7 (by decide +kernel)))
set_option maxRecDepth 20000 in
theorem gX10_feed_4 : GoodIn vX10_feed (wsV RX10 71 RX7 yX7_put vX7_put_4) := goodIn_app (goodIn_r [.methodLink RX10 71 yX7_put, .instanceMethod yX7_put, .selects RX7 yX7_put yX7_put, .initialized RX7] [3, 4, 5, 6] (by decide +kernel) (by decide +kernel)) (goodIn_ca (goodIn_r (.code yX7_put cX7_put 3 none :: [.fieldLink RX7 15 "HookPier$Reader" "fed" "I", .fieldLink RX7 9 "HookPier$Reader" "text" "[B"]) [7, 8, 9] (by decide +kernel) (by decide +kernel) : GoodIn vX10_feed (.code yX7_put cX7_put 3 none :: [.fieldLink RX7 15 "HookPier$Reader" "fed" "I", .fieldLink RX7 9 "HookPier$Reader" "text" "[B"])) (goodIn_sub iX10_feed_X7 (by decide +kernel)))
set_option maxHeartbeats 1000000 in
set_option maxRecDepth 100000 in
theorem kX10_feed (l : Launch) (dC : Nat → ClassId) (dI : Nat → Nat → Nat) (a0 : Nat) (k1 : Int32) (k2 : Int32) (k3 : Int32) (k4 : Int32) (k5 : Int32) (a6 : Nat) (a7 : Nat) (g8 : Value) (g9 : Value) (g10 : Value) (g11 : Value) (g12 : Value) (g13 : Value) (g14 : Value) (g15 : Value) (g16 : Value) (g17 : Value) (g18 : Value) (g19 : Value) (g20 : Value) (g21 : Value) (g22 : Value) (g23 : Value) (g24 : Value) (g25 : Value) (g26 : Value) (cB27 : ClassId) (f28 : Nat → Int32) (sz : Nat) : Met l yX10_feed vX10_feed ({ frames := 1, cells := 0, slots := 0, locals := 22 }) (PC (dC, dI) [.ref a0, .int k1, .int k2, .int k3, .int k4, .int k5] sz [(a0, .inr (7, [g8, g9, .ref a6, g10, g11, g12, g13, g14, g15, g16])), (a6, .inr (5, [.ref a7, .int 0, g17, g18, g19, g20, g21, g22, g23, g24, g25, g26])), (a7, .inl (cB27, 900, .inl f28))] [(cB27, .byte)]) (va_Qi (S := Unit) (fun (r : Int32) _ => r = 20) (fun _ t => BC (dC, dI) (va_A [(a0, .inr (7, [g8, g9, .ref a6, g10, g11, g12, g13, g14, g15, g16])), (a6, .inr (5, [.ref a7, .int 0, g17, g18, g19, g20, g21, g22, g23, g24, g25, g26])), (a7, .inl (cB27, 900, .inl f28))] sz) [] [] t) (va_A [(a0, .inr (7, [g8, g9, .ref a6, g10, g11, g12, g13, g14, g15, g16])), (a6, .inr (5, [.ref a7, .int 0, g17, g18, g19, g20, g21, g22, g23, g24, g25, g26])), (a7, .inl (cB27, 900, .inl f28))] sz)) 0 0 (va_A [(a0, .inr (7, [g8, g9, .ref a6, g10, g11, g12, g13, g14, g15, g16])), (a6, .inr (5, [.ref a7, .int 0, g17, g18, g19, g20, g21, g22, g23, g24, g25, g26])), (a7, .inl (cB27, 900, .inl f28))] sz) := by
  refine Met.ofW (cc := cX10_feed) (maxL := 6) (ret := (some .int)) (by decide) rfl ?_
  intro p e s m args below meth c s₁ B hml hv
  obtain ⟨rfl, hsz, hP, hK, hD0, hN⟩ := hv
  have hx := B.exec
  have hb := B.bytes
  have hr := B.returns
  have hts := atoms_spec (ws := vX10_feed) B.pre
  have hown : s.vm.findClass RX10 = some m.cls := findClass_of_methodNamed B.named
  have hlocks := B.notSynchronized
  subst hsz
  have hD := hD0.self (sz := s.heap.size)
  generalize hAe : va_A [(a0, .inr (7, [g8, g9, .ref a6, g10, g11, g12, g13, g14, g15, g16])), (a6, .inr (5, [.ref a7, .int 0, g17, g18, g19, g20, g21, g22, g23, g24, g25, g26])), (a7, .inl (cB27, 900, .inl f28))] s.heap.size = A at hD ⊢
  have hA : ∀ q : Nat, s.heap.size ≤ q → A q := fun q h => by rw [← hAe]; exact Or.inr h
  have hS : va_S A s.heap s.heap [] := va_S.rf
  have hP : va_P (dC, dI) vwCl [(a0, .inr (7, [g8, g9, .ref a6, g10, g11, g12, g13, g14, g15, g16])), (a6, .inr (5, [.ref a7, .int 0, g17, g18, g19, g20, g21, g22, g23, g24, g25, g26])), (a7, .inl (cB27, 900, .inl f28))] s.heap := hP
  have hl := lv_entry ([.ref a0, .int k1, .int k2, .int k3, .int k4, .int k5]) (n := 6) (Nat.le_of_ble_eq_true rfl)
  rw [lg_entry_eq]
  generalize (lg_sl ([.ref a0, .int k1, .int k2, .int k3, .int k4, .int k5]) ++ List.replicate (6 - (lg_sl ([.ref a0, .int k1, .int k2, .int k3, .int k4, .int k5])).length) Slot.unset).toArray = ls at hl ⊢
  have hl : lv_has ls 6 [(0, .ref a0), (1, .int k1), (2, .int k2), (3, .int k3), (4, .int k4), (5, .int k5)] := hl
  refine lv_aload_n hx hb dX10_feed_0 rfl (lv_at hl 0 rfl) ?_
  refine va_get (D := (dC, dI)) (ci := 7) (v := .ref a6) (C := RX10) (T := TX10) (N := 10) hx hb hts iX10_feed_X10 hown hK hP 0 rfl rfl 2 (by decide) (hts (.fieldLink RX10 22 "HookPier" "reader" "LHookPier$Reader;") (List.mem_of_getElem? (i := 1) rfl)) (fun _ h9 => h9) rfl dX10_feed_1 ?_
  refine va_get (D := (dC, dI)) (ci := 5) (v := .int 0) (C := RX7) (T := TX7) (N := 12) hx hb hts iX10_feed_X7 hown hK hP 1 rfl rfl 1 (by decide) (hts (.fieldLink RX10 68 "HookPier$Reader" "fed" "I") (List.mem_of_getElem? (i := 2) rfl)) (fun _ h9 => h9) rfl dX10_feed_4 ?_
  refine lv_bipush (v := 20) hx hb dX10_feed_7 (by decide) ?_
  refine lv_iadd hx hb dX10_feed_9 ?_
  refine lv_topi (fun z1 ez1 => ?_)
  obtain rfl : z1 = 20 := ez1.trans (by decide)
  refine lv_sipush (v := 900) hx hb dX10_feed_10 (by decide) ?_
  refine lv_icmp_le (tgt := 18) hx hb dX10_feed_13 (by decide) (fun _ => ?_) (fun c2 => absurd c2 (by decide))
  refine lv_aload_n hx hb dX10_feed_18 rfl (lv_at hl 0 rfl) ?_
  refine va_get (D := (dC, dI)) (ci := 7) (v := .ref a6) (C := RX10) (T := TX10) (N := 10) hx hb hts iX10_feed_X10 hown hK hP 0 rfl rfl 2 (by decide) (hts (.fieldLink RX10 22 "HookPier" "reader" "LHookPier$Reader;") (List.mem_of_getElem? (i := 1) rfl)) (fun _ h9 => h9) rfl dX10_feed_19 ?_
  refine lv_iload_n hx hb dX10_feed_22 rfl (lv_at hl 1 rfl) ?_
  refine cl_v (wc := [(a6, .inr (5, [.ref a7, .int 0, g17, g18, g19, g20, g21, g22, g23, g24, g25, g26])), (a7, .inl (cB27, 900, .inl f28))]) (wr := [(a0, .inr (7, [g8, g9, .ref a6, g10, g11, g12, g13, g14, g15, g16]))]) (va_runV (As := [.int k1]) (rest := []) ⟨hx, hb, hml, hown, hts⟩ (kX7_put l dC dI a6 k1 a7 (g17) (g18) (g19) (g20) (g21) (g22) (g23) (g24) (g25) (g26) cB27 f28 s.heap.size) (cwV 1 hts gX10_feed_0 rfl rfl rfl (by decide +kernel) ⟨Nat.le_of_ble_eq_true rfl, Nat.le_of_ble_eq_true rfl⟩) (PV (hP.sub (ws' := [(a6, .inr (5, [.ref a7, .int 0, g17, g18, g19, g20, g21, g22, g23, g24, g25, g26])), (a7, .inl (cB27, 900, .inl f28))]) [1, 2] rfl) (hK.sub (tys' := [(cB27, .byte)]) [0] rfl) (hD.sub (ws' := [(a6, .inr (5, [.ref a7, .int 0, g17, g18, g19, g20, g21, g22, g23, g24, g25, g26])), (a7, .inl (cB27, 900, .inl f28))]) [1, 2] (by decide) rfl) hN 0 rfl rfl) rfl rfl hl.1 rfl (lv_room (Nat.le_of_ble_eq_true rfl)) dX10_feed_23 ⟨Nat.le_of_ble_eq_true rfl, Nat.le_of_ble_eq_true rfl⟩) hP hD hK hS hA [1, 2] [0] rfl rfl (by decide) (by decide) (fun f3 H locs hw hP hD hK hS => ?_)
  have hP : va_P (dC, dI) vwCl [(a0, .inr (7, [g8, g9, .ref a6, g10, g11, g12, g13, g14, g15, g16])), (a6, .inr (5, [.ref a7, .int 4, g17, g18, g19, g20, g21, g22, g23, g24, g25, g26])), (a7, .inl (cB27, 900, .inl f3))] H := hP
  have hD : va_D A [(a0, .inr (7, [g8, g9, .ref a6, g10, g11, g12, g13, g14, g15, g16])), (a6, .inr (5, [.ref a7, .int 4, g17, g18, g19, g20, g21, g22, g23, g24, g25, g26])), (a7, .inl (cB27, 900, .inl f3))] := hD
  have hK : va_K (dC, dI) vwCl [(cB27, .byte)] s := hK
  refine lv_aload_n hx hb dX10_feed_26 rfl (lv_at hl 0 rfl) ?_
  refine va_get (D := (dC, dI)) (ci := 7) (v := .ref a6) (C := RX10) (T := TX10) (N := 10) hx hb hts iX10_feed_X10 hown hK hP 0 rfl rfl 2 (by decide) (hts (.fieldLink RX10 22 "HookPier" "reader" "LHookPier$Reader;") (List.mem_of_getElem? (i := 1) rfl)) (fun _ h9 => h9) rfl dX10_feed_27 ?_
  refine lv_iload_n hx hb dX10_feed_30 rfl (lv_at hl 2 rfl) ?_
  refine cl_v (wc := [(a6, .inr (5, [.ref a7, .int 4, g17, g18, g19, g20, g21, g22, g23, g24, g25, g26])), (a7, .inl (cB27, 900, .inl f3))]) (wr := [(a0, .inr (7, [g8, g9, .ref a6, g10, g11, g12, g13, g14, g15, g16]))]) (va_runV (As := [.int k2]) (rest := []) ⟨hx, hb, hml, hown, hts⟩ (kX7_put_1 l dC dI a6 k2 a7 (g17) (g18) (g19) (g20) (g21) (g22) (g23) (g24) (g25) (g26) cB27 f3 H.size) (cwV 1 hts gX10_feed_1 rfl rfl rfl (by decide +kernel) ⟨Nat.le_of_ble_eq_true rfl, Nat.le_of_ble_eq_true rfl⟩) (PV (hP.sub (ws' := [(a6, .inr (5, [.ref a7, .int 4, g17, g18, g19, g20, g21, g22, g23, g24, g25, g26])), (a7, .inl (cB27, 900, .inl f3))]) [1, 2] rfl) (hK.sub (tys' := [(cB27, .byte)]) [0] rfl) (hD.sub (ws' := [(a6, .inr (5, [.ref a7, .int 4, g17, g18, g19, g20, g21, g22, g23, g24, g25, g26])), (a7, .inl (cB27, 900, .inl f3))]) [1, 2] (by decide) rfl) hN 0 rfl rfl) rfl rfl hl.1 rfl (lv_room (Nat.le_of_ble_eq_true rfl)) dX10_feed_31 ⟨Nat.le_of_ble_eq_true rfl, Nat.le_of_ble_eq_true rfl⟩) hP hD hK hS hA [1, 2] [0] rfl rfl (by decide) (by decide) (fun f4 H locs hw hP hD hK hS => ?_)
  have hP : va_P (dC, dI) vwCl [(a0, .inr (7, [g8, g9, .ref a6, g10, g11, g12, g13, g14, g15, g16])), (a6, .inr (5, [.ref a7, .int 8, g17, g18, g19, g20, g21, g22, g23, g24, g25, g26])), (a7, .inl (cB27, 900, .inl f4))] H := hP
  have hD : va_D A [(a0, .inr (7, [g8, g9, .ref a6, g10, g11, g12, g13, g14, g15, g16])), (a6, .inr (5, [.ref a7, .int 8, g17, g18, g19, g20, g21, g22, g23, g24, g25, g26])), (a7, .inl (cB27, 900, .inl f4))] := hD
  have hK : va_K (dC, dI) vwCl [(cB27, .byte)] s := hK
  refine lv_aload_n hx hb dX10_feed_34 rfl (lv_at hl 0 rfl) ?_
  refine va_get (D := (dC, dI)) (ci := 7) (v := .ref a6) (C := RX10) (T := TX10) (N := 10) hx hb hts iX10_feed_X10 hown hK hP 0 rfl rfl 2 (by decide) (hts (.fieldLink RX10 22 "HookPier" "reader" "LHookPier$Reader;") (List.mem_of_getElem? (i := 1) rfl)) (fun _ h9 => h9) rfl dX10_feed_35 ?_
  refine lv_iload_n hx hb dX10_feed_38 rfl (lv_at hl 3 rfl) ?_
  refine cl_v (wc := [(a6, .inr (5, [.ref a7, .int 8, g17, g18, g19, g20, g21, g22, g23, g24, g25, g26])), (a7, .inl (cB27, 900, .inl f4))]) (wr := [(a0, .inr (7, [g8, g9, .ref a6, g10, g11, g12, g13, g14, g15, g16]))]) (va_runV (As := [.int k3]) (rest := []) ⟨hx, hb, hml, hown, hts⟩ (kX7_put_2 l dC dI a6 k3 a7 (g17) (g18) (g19) (g20) (g21) (g22) (g23) (g24) (g25) (g26) cB27 f4 H.size) (cwV 1 hts gX10_feed_2 rfl rfl rfl (by decide +kernel) ⟨Nat.le_of_ble_eq_true rfl, Nat.le_of_ble_eq_true rfl⟩) (PV (hP.sub (ws' := [(a6, .inr (5, [.ref a7, .int 8, g17, g18, g19, g20, g21, g22, g23, g24, g25, g26])), (a7, .inl (cB27, 900, .inl f4))]) [1, 2] rfl) (hK.sub (tys' := [(cB27, .byte)]) [0] rfl) (hD.sub (ws' := [(a6, .inr (5, [.ref a7, .int 8, g17, g18, g19, g20, g21, g22, g23, g24, g25, g26])), (a7, .inl (cB27, 900, .inl f4))]) [1, 2] (by decide) rfl) hN 0 rfl rfl) rfl rfl hl.1 rfl (lv_room (Nat.le_of_ble_eq_true rfl)) dX10_feed_39 ⟨Nat.le_of_ble_eq_true rfl, Nat.le_of_ble_eq_true rfl⟩) hP hD hK hS hA [1, 2] [0] rfl rfl (by decide) (by decide) (fun f5 H locs hw hP hD hK hS => ?_)
  have hP : va_P (dC, dI) vwCl [(a0, .inr (7, [g8, g9, .ref a6, g10, g11, g12, g13, g14, g15, g16])), (a6, .inr (5, [.ref a7, .int 12, g17, g18, g19, g20, g21, g22, g23, g24, g25, g26])), (a7, .inl (cB27, 900, .inl f5))] H := hP
  have hD : va_D A [(a0, .inr (7, [g8, g9, .ref a6, g10, g11, g12, g13, g14, g15, g16])), (a6, .inr (5, [.ref a7, .int 12, g17, g18, g19, g20, g21, g22, g23, g24, g25, g26])), (a7, .inl (cB27, 900, .inl f5))] := hD
  have hK : va_K (dC, dI) vwCl [(cB27, .byte)] s := hK
  refine lv_aload_n hx hb dX10_feed_42 rfl (lv_at hl 0 rfl) ?_
  refine va_get (D := (dC, dI)) (ci := 7) (v := .ref a6) (C := RX10) (T := TX10) (N := 10) hx hb hts iX10_feed_X10 hown hK hP 0 rfl rfl 2 (by decide) (hts (.fieldLink RX10 22 "HookPier" "reader" "LHookPier$Reader;") (List.mem_of_getElem? (i := 1) rfl)) (fun _ h9 => h9) rfl dX10_feed_43 ?_
  refine lv_iload hx hb dX10_feed_46 (lv_at hl 4 rfl) ?_
  refine cl_v (wc := [(a6, .inr (5, [.ref a7, .int 12, g17, g18, g19, g20, g21, g22, g23, g24, g25, g26])), (a7, .inl (cB27, 900, .inl f5))]) (wr := [(a0, .inr (7, [g8, g9, .ref a6, g10, g11, g12, g13, g14, g15, g16]))]) (va_runV (As := [.int k4]) (rest := []) ⟨hx, hb, hml, hown, hts⟩ (kX7_put_3 l dC dI a6 k4 a7 (g17) (g18) (g19) (g20) (g21) (g22) (g23) (g24) (g25) (g26) cB27 f5 H.size) (cwV 1 hts gX10_feed_3 rfl rfl rfl (by decide +kernel) ⟨Nat.le_of_ble_eq_true rfl, Nat.le_of_ble_eq_true rfl⟩) (PV (hP.sub (ws' := [(a6, .inr (5, [.ref a7, .int 12, g17, g18, g19, g20, g21, g22, g23, g24, g25, g26])), (a7, .inl (cB27, 900, .inl f5))]) [1, 2] rfl) (hK.sub (tys' := [(cB27, .byte)]) [0] rfl) (hD.sub (ws' := [(a6, .inr (5, [.ref a7, .int 12, g17, g18, g19, g20, g21, g22, g23, g24, g25, g26])), (a7, .inl (cB27, 900, .inl f5))]) [1, 2] (by decide) rfl) hN 0 rfl rfl) rfl rfl hl.1 rfl (lv_room (Nat.le_of_ble_eq_true rfl)) dX10_feed_48 ⟨Nat.le_of_ble_eq_true rfl, Nat.le_of_ble_eq_true rfl⟩) hP hD hK hS hA [1, 2] [0] rfl rfl (by decide) (by decide) (fun f6 H locs hw hP hD hK hS => ?_)
  have hP : va_P (dC, dI) vwCl [(a0, .inr (7, [g8, g9, .ref a6, g10, g11, g12, g13, g14, g15, g16])), (a6, .inr (5, [.ref a7, .int 16, g17, g18, g19, g20, g21, g22, g23, g24, g25, g26])), (a7, .inl (cB27, 900, .inl f6))] H := hP
  have hD : va_D A [(a0, .inr (7, [g8, g9, .ref a6, g10, g11, g12, g13, g14, g15, g16])), (a6, .inr (5, [.ref a7, .int 16, g17, g18, g19, g20, g21, g22, g23, g24, g25, g26])), (a7, .inl (cB27, 900, .inl f6))] := hD
  have hK : va_K (dC, dI) vwCl [(cB27, .byte)] s := hK
  refine lv_aload_n hx hb dX10_feed_51 rfl (lv_at hl 0 rfl) ?_
  refine va_get (D := (dC, dI)) (ci := 7) (v := .ref a6) (C := RX10) (T := TX10) (N := 10) hx hb hts iX10_feed_X10 hown hK hP 0 rfl rfl 2 (by decide) (hts (.fieldLink RX10 22 "HookPier" "reader" "LHookPier$Reader;") (List.mem_of_getElem? (i := 1) rfl)) (fun _ h9 => h9) rfl dX10_feed_52 ?_
  refine lv_iload hx hb dX10_feed_55 (lv_at hl 5 rfl) ?_
  refine cl_v (wc := [(a6, .inr (5, [.ref a7, .int 16, g17, g18, g19, g20, g21, g22, g23, g24, g25, g26])), (a7, .inl (cB27, 900, .inl f6))]) (wr := [(a0, .inr (7, [g8, g9, .ref a6, g10, g11, g12, g13, g14, g15, g16]))]) (va_runV (As := [.int k5]) (rest := []) ⟨hx, hb, hml, hown, hts⟩ (kX7_put_4 l dC dI a6 k5 a7 (g17) (g18) (g19) (g20) (g21) (g22) (g23) (g24) (g25) (g26) cB27 f6 H.size) (cwV 1 hts gX10_feed_4 rfl rfl rfl (by decide +kernel) ⟨Nat.le_of_ble_eq_true rfl, Nat.le_of_ble_eq_true rfl⟩) (PV (hP.sub (ws' := [(a6, .inr (5, [.ref a7, .int 16, g17, g18, g19, g20, g21, g22, g23, g24, g25, g26])), (a7, .inl (cB27, 900, .inl f6))]) [1, 2] rfl) (hK.sub (tys' := [(cB27, .byte)]) [0] rfl) (hD.sub (ws' := [(a6, .inr (5, [.ref a7, .int 16, g17, g18, g19, g20, g21, g22, g23, g24, g25, g26])), (a7, .inl (cB27, 900, .inl f6))]) [1, 2] (by decide) rfl) hN 0 rfl rfl) rfl rfl hl.1 rfl (lv_room (Nat.le_of_ble_eq_true rfl)) dX10_feed_57 ⟨Nat.le_of_ble_eq_true rfl, Nat.le_of_ble_eq_true rfl⟩) hP hD hK hS hA [1, 2] [0] rfl rfl (by decide) (by decide) (fun f7 H locs hw hP hD hK hS => ?_)
  have hP : va_P (dC, dI) vwCl [(a0, .inr (7, [g8, g9, .ref a6, g10, g11, g12, g13, g14, g15, g16])), (a6, .inr (5, [.ref a7, .int 20, g17, g18, g19, g20, g21, g22, g23, g24, g25, g26])), (a7, .inl (cB27, 900, .inl f7))] H := hP
  have hD : va_D A [(a0, .inr (7, [g8, g9, .ref a6, g10, g11, g12, g13, g14, g15, g16])), (a6, .inr (5, [.ref a7, .int 20, g17, g18, g19, g20, g21, g22, g23, g24, g25, g26])), (a7, .inl (cB27, 900, .inl f7))] := hD
  have hK : va_K (dC, dI) vwCl [(cB27, .byte)] s := hK
  refine lv_aload_n hx hb dX10_feed_60 rfl (lv_at hl 0 rfl) ?_
  refine va_get (D := (dC, dI)) (ci := 7) (v := .ref a6) (C := RX10) (T := TX10) (N := 10) hx hb hts iX10_feed_X10 hown hK hP 0 rfl rfl 2 (by decide) (hts (.fieldLink RX10 22 "HookPier" "reader" "LHookPier$Reader;") (List.mem_of_getElem? (i := 1) rfl)) (fun _ h9 => h9) rfl dX10_feed_61 ?_
  refine va_get (D := (dC, dI)) (ci := 5) (v := .int 20) (C := RX7) (T := TX7) (N := 12) hx hb hts iX10_feed_X7 hown hK hP 1 rfl rfl 1 (by decide) (hts (.fieldLink RX10 68 "HookPier$Reader" "fed" "I") (List.mem_of_getElem? (i := 2) rfl)) (fun _ h9 => h9) rfl dX10_feed_64 ?_
  have hP9 := hP.sub (ws' := []) [] rfl
  have hD9 := hD.sub (ws' := []) [] (by decide) rfl
  have hK9 := hK.sub (tys' := []) [] rfl
  exact W.iret (v := 20) hx hb hr (fun t ht hW => ⟨⟨20, (), rfl, rfl, by rw [ht]; exact hP9, va_K.moved hW.alike hK9, hD9⟩, hS.F ht⟩) hS.2.2 dX10_feed_67
theorem dX12_feed_0 : decode cX12_feed 0 = .ok (.aload_n 0, 1) := by decide +kernel
theorem dX12_feed_1 : decode cX12_feed 1 = .ok (.iconst 0, 1) := by decide +kernel
theorem dX12_feed_100 : decode cX12_feed 100 = .ok (.bastore, 1) := by decide +kernel
theorem dX12_feed_101 : decode cX12_feed 101 = .ok (.aload_n 0, 1) := by decide +kernel
theorem dX12_feed_102 : decode cX12_feed 102 = .ok (.dup, 1) := by decide +kernel
theorem dX12_feed_103 : decode cX12_feed 103 = .ok (.getfield 292, 3) := by decide +kernel
theorem dX12_feed_106 : decode cX12_feed 106 = .ok (.iconst 1, 1) := by decide +kernel
theorem dX12_feed_107 : decode cX12_feed 107 = .ok (.iadd, 1) := by decide +kernel
theorem dX12_feed_108 : decode cX12_feed 108 = .ok (.putfield 292, 3) := by decide +kernel
theorem dX12_feed_11 : decode cX12_feed 11 = .ok (.iadd, 1) := by decide +kernel
theorem dX12_feed_111 : decode cX12_feed 111 = .ok (.iinc 6 1, 3) := by decide +kernel
theorem dX12_feed_114 : decode cX12_feed 114 = .ok (.goto (-91), 3) := by decide +kernel
theorem dX12_feed_117 : decode cX12_feed 117 = .ok (.aload_n 0, 1) := by decide +kernel
theorem dX12_feed_118 : decode cX12_feed 118 = .ok (.getfield 292, 3) := by decide +kernel
theorem dX12_feed_12 : decode cX12_feed 12 = .ok (.sipush 900, 3) := by decide +kernel
theorem dX12_feed_121 : decode cX12_feed 121 = .ok (.ireturn, 1) := by decide +kernel
theorem dX12_feed_15 : decode cX12_feed 15 = .ok (.if_icmp .le 5, 3) := by decide +kernel
theorem dX12_feed_2 : decode cX12_feed 2 = .ok (.putfield 36, 3) := by decide +kernel
theorem dX12_feed_20 : decode cX12_feed 20 = .ok (.iconst 0, 1) := by decide +kernel
theorem dX12_feed_21 : decode cX12_feed 21 = .ok (.istore 6, 2) := by decide +kernel
theorem dX12_feed_23 : decode cX12_feed 23 = .ok (.iload 6, 2) := by decide +kernel
theorem dX12_feed_25 : decode cX12_feed 25 = .ok (.bipush 20, 2) := by decide +kernel
theorem dX12_feed_27 : decode cX12_feed 27 = .ok (.if_icmp .ge 90, 3) := by decide +kernel
theorem dX12_feed_30 : decode cX12_feed 30 = .ok (.iload 6, 2) := by decide +kernel
theorem dX12_feed_32 : decode cX12_feed 32 = .ok (.iconst 4, 1) := by decide +kernel
theorem dX12_feed_33 : decode cX12_feed 33 = .ok (.if_icmp .ge 7, 3) := by decide +kernel
theorem dX12_feed_36 : decode cX12_feed 36 = .ok (.iload_n 1, 1) := by decide +kernel
theorem dX12_feed_37 : decode cX12_feed 37 = .ok (.goto 39, 3) := by decide +kernel
theorem dX12_feed_40 : decode cX12_feed 40 = .ok (.iload 6, 2) := by decide +kernel
theorem dX12_feed_42 : decode cX12_feed 42 = .ok (.bipush 8, 2) := by decide +kernel
theorem dX12_feed_44 : decode cX12_feed 44 = .ok (.if_icmp .ge 7, 3) := by decide +kernel
theorem dX12_feed_47 : decode cX12_feed 47 = .ok (.iload_n 2, 1) := by decide +kernel
theorem dX12_feed_48 : decode cX12_feed 48 = .ok (.goto 28, 3) := by decide +kernel
theorem dX12_feed_5 : decode cX12_feed 5 = .ok (.aload_n 0, 1) := by decide +kernel
theorem dX12_feed_51 : decode cX12_feed 51 = .ok (.iload 6, 2) := by decide +kernel
theorem dX12_feed_53 : decode cX12_feed 53 = .ok (.bipush 12, 2) := by decide +kernel
theorem dX12_feed_55 : decode cX12_feed 55 = .ok (.if_icmp .ge 7, 3) := by decide +kernel
theorem dX12_feed_58 : decode cX12_feed 58 = .ok (.iload_n 3, 1) := by decide +kernel
theorem dX12_feed_59 : decode cX12_feed 59 = .ok (.goto 17, 3) := by decide +kernel
theorem dX12_feed_6 : decode cX12_feed 6 = .ok (.getfield 292, 3) := by decide +kernel
theorem dX12_feed_62 : decode cX12_feed 62 = .ok (.iload 6, 2) := by decide +kernel
theorem dX12_feed_64 : decode cX12_feed 64 = .ok (.bipush 16, 2) := by decide +kernel
theorem dX12_feed_66 : decode cX12_feed 66 = .ok (.if_icmp .ge 8, 3) := by decide +kernel
theorem dX12_feed_69 : decode cX12_feed 69 = .ok (.iload 4, 2) := by decide +kernel
theorem dX12_feed_71 : decode cX12_feed 71 = .ok (.goto 5, 3) := by decide +kernel
theorem dX12_feed_74 : decode cX12_feed 74 = .ok (.iload 5, 2) := by decide +kernel
theorem dX12_feed_76 : decode cX12_feed 76 = .ok (.istore 7, 2) := by decide +kernel
theorem dX12_feed_78 : decode cX12_feed 78 = .ok (.aload_n 0, 1) := by decide +kernel
theorem dX12_feed_79 : decode cX12_feed 79 = .ok (.getfield 13, 3) := by decide +kernel
theorem dX12_feed_82 : decode cX12_feed 82 = .ok (.aload_n 0, 1) := by decide +kernel
theorem dX12_feed_83 : decode cX12_feed 83 = .ok (.getfield 292, 3) := by decide +kernel
theorem dX12_feed_86 : decode cX12_feed 86 = .ok (.iload 7, 2) := by decide +kernel
theorem dX12_feed_88 : decode cX12_feed 88 = .ok (.bipush 24, 2) := by decide +kernel
theorem dX12_feed_9 : decode cX12_feed 9 = .ok (.bipush 20, 2) := by decide +kernel
theorem dX12_feed_90 : decode cX12_feed 90 = .ok (.bipush 8, 2) := by decide +kernel
theorem dX12_feed_92 : decode cX12_feed 92 = .ok (.iload 6, 2) := by decide +kernel
theorem dX12_feed_94 : decode cX12_feed 94 = .ok (.iconst 4, 1) := by decide +kernel
theorem dX12_feed_95 : decode cX12_feed 95 = .ok (.irem, 1) := by decide +kernel
theorem dX12_feed_96 : decode cX12_feed 96 = .ok (.imul, 1) := by decide +kernel
theorem dX12_feed_97 : decode cX12_feed 97 = .ok (.isub, 1) := by decide +kernel
theorem dX12_feed_98 : decode cX12_feed 98 = .ok (.ishr, 1) := by decide +kernel
theorem dX12_feed_99 : decode cX12_feed 99 = .ok (.i2b, 1) := by decide +kernel
def vX12_feed : List Cond := .code yX12_feed cX12_feed 8 (some .int) :: ([.fieldLink RX12 36 "HookPierModel" "thrown" "I", .fieldLink RX12 292 "HookPierModel" "taped" "I", .fieldLink RX12 13 "HookPierModel" "tape" "[B"] ++ wsX120)
theorem iX12_feed_X12 : ∀ w ∈ wsX120, w ∈ vX12_feed := fun _ h => List.mem_cons_of_mem _ (List.mem_append_right _ h)
set_option maxHeartbeats 1000000 in
set_option maxRecDepth 100000 in
theorem kX12_feed (l : Launch) (dC : Nat → ClassId) (dI : Nat → Nat → Nat) (a0 : Nat) (k1 : Int32) (k2 : Int32) (k3 : Int32) (k4 : Int32) (k5 : Int32) (a6 : Nat) (g7 : Value) (g8 : Value) (g9 : Value) (g10 : Value) (g11 : Value) (g12 : Value) (g13 : Value) (g14 : Value) (g15 : Value) (g16 : Value) (g17 : Value) (g18 : Value) (g19 : Value) (g20 : Value) (g21 : Value) (g22 : Value) (g23 : Value) (g24 : Value) (g25 : Value) (g26 : Value) (g27 : Value) (g28 : Value) (g29 : Value) (g30 : Value) (g31 : Value) (g32 : Value) (g33 : Value) (g34 : Value) (cB35 : ClassId) (f36 : Nat → Int32) (sz : Nat) : Met l yX12_feed vX12_feed ({ frames := 0, cells := 0, slots := 0, locals := 0 }) (PC (dC, dI) [.ref a0, .int k1, .int k2, .int k3, .int k4, .int k5] sz [(a0, .inr (9, [g7, g8, g9, g10, g11, .ref a6, .int 0, g12, g13, g14, g15, g16, g17, g18, g19, g20, g21, g22, g23, g24, g25, g26, g27, g28, g29, g30, g31, g32, g33, g34])), (a6, .inl (cB35, 900, .inl f36))] [(cB35, .byte)]) (va_Qi (S := Unit) (fun (r : Int32) _ => r = 20) (fun _ t => BC (dC, dI) (va_A [(a0, .inr (9, [g7, g8, g9, g10, g11, .ref a6, .int 0, g12, g13, g14, g15, g16, g17, g18, g19, g20, g21, g22, g23, g24, g25, g26, g27, g28, g29, g30, g31, g32, g33, g34])), (a6, .inl (cB35, 900, .inl f36))] sz) [] [] t) (va_A [(a0, .inr (9, [g7, g8, g9, g10, g11, .ref a6, .int 0, g12, g13, g14, g15, g16, g17, g18, g19, g20, g21, g22, g23, g24, g25, g26, g27, g28, g29, g30, g31, g32, g33, g34])), (a6, .inl (cB35, 900, .inl f36))] sz)) 0 0 (va_A [(a0, .inr (9, [g7, g8, g9, g10, g11, .ref a6, .int 0, g12, g13, g14, g15, g16, g17, g18, g19, g20, g21, g22, g23, g24, g25, g26, g27, g28, g29, g30, g31, g32, g33, g34])), (a6, .inl (cB35, 900, .inl f36))] sz) := by
  refine Met.ofW (cc := cX12_feed) (maxL := 8) (ret := (some .int)) (by decide) rfl ?_
  intro p e s m args below meth c s₁ B hml hv
  obtain ⟨rfl, hsz, hP, hK, hD0, hN⟩ := hv
  have hx := B.exec
  have hb := B.bytes
  have hr := B.returns
  have hts := atoms_spec (ws := vX12_feed) B.pre
  have hown : s.vm.findClass RX12 = some m.cls := findClass_of_methodNamed B.named
  have hlocks := B.notSynchronized
  subst hsz
  have hD := hD0.self (sz := s.heap.size)
  generalize hAe : va_A [(a0, .inr (9, [g7, g8, g9, g10, g11, .ref a6, .int 0, g12, g13, g14, g15, g16, g17, g18, g19, g20, g21, g22, g23, g24, g25, g26, g27, g28, g29, g30, g31, g32, g33, g34])), (a6, .inl (cB35, 900, .inl f36))] s.heap.size = A at hD ⊢
  have hA : ∀ q : Nat, s.heap.size ≤ q → A q := fun q h => by rw [← hAe]; exact Or.inr h
  have hS : va_S A s.heap s.heap [] := va_S.rf
  have hP : va_P (dC, dI) vwCl [(a0, .inr (9, [g7, g8, g9, g10, g11, .ref a6, .int 0, g12, g13, g14, g15, g16, g17, g18, g19, g20, g21, g22, g23, g24, g25, g26, g27, g28, g29, g30, g31, g32, g33, g34])), (a6, .inl (cB35, 900, .inl f36))] s.heap := hP
  have hl := lv_entry ([.ref a0, .int k1, .int k2, .int k3, .int k4, .int k5]) (n := 8) (Nat.le_of_ble_eq_true rfl)
  rw [lg_entry_eq]
  generalize (lg_sl ([.ref a0, .int k1, .int k2, .int k3, .int k4, .int k5]) ++ List.replicate (8 - (lg_sl ([.ref a0, .int k1, .int k2, .int k3, .int k4, .int k5])).length) Slot.unset).toArray = ls at hl ⊢
  have hl : lv_has ls 8 [(0, .ref a0), (1, .int k1), (2, .int k2), (3, .int k3), (4, .int k4), (5, .int k5)] := hl
  refine lv_aload_n hx hb dX12_feed_0 rfl (lv_at hl 0 rfl) ?_
  refine lv_iconst (v := 0) hx hb dX12_feed_1 (by decide) ?_
  refine va_put (D := (dC, dI)) (ci := 9) (v := .int 0) (ty := .int) (C := RX12) (T := TX12) (N := 30) hx hb hts iX12_feed_X12 tyX12 tyX12_ok nmX12 hown hK hP hD hS 0 rfl rfl 0 (by decide) (hts (.fieldLink RX12 36 "HookPierModel" "thrown" "I") (List.mem_of_getElem? (i := 1) rfl)) (fun _ h9 => h9) rfl (by decide +kernel) rfl rfl (Nat.le_of_ble_eq_true rfl) dX12_feed_2 (fun H locs hP hD hS => ?_)
  have hP : va_P (dC, dI) vwCl [(a0, .inr (9, [.int 0, g8, g9, g10, g11, .ref a6, .int 0, g12, g13, g14, g15, g16, g17, g18, g19, g20, g21, g22, g23, g24, g25, g26, g27, g28, g29, g30, g31, g32, g33, g34])), (a6, .inl (cB35, 900, .inl f36))] H := hP
  have hD : va_D A [(a0, .inr (9, [.int 0, g8, g9, g10, g11, .ref a6, .int 0, g12, g13, g14, g15, g16, g17, g18, g19, g20, g21, g22, g23, g24, g25, g26, g27, g28, g29, g30, g31, g32, g33, g34])), (a6, .inl (cB35, 900, .inl f36))] := hD
  refine lv_aload_n hx hb dX12_feed_5 rfl (lv_at hl 0 rfl) ?_
  refine va_get (D := (dC, dI)) (ci := 9) (v := .int 0) (C := RX12) (T := TX12) (N := 30) hx hb hts iX12_feed_X12 hown hK hP 0 rfl rfl 6 (by decide) (hts (.fieldLink RX12 292 "HookPierModel" "taped" "I") (List.mem_of_getElem? (i := 2) rfl)) (fun _ h9 => h9) rfl dX12_feed_6 ?_
  refine lv_bipush (v := 20) hx hb dX12_feed_9 (by decide) ?_
  refine lv_iadd hx hb dX12_feed_11 ?_
  refine lv_topi (fun z1 ez1 => ?_)
  obtain rfl : z1 = 20 := ez1.trans (by decide)
  refine lv_sipush (v := 900) hx hb dX12_feed_12 (by decide) ?_
  refine lv_icmp_le (tgt := 20) hx hb dX12_feed_15 (by decide) (fun _ => ?_) (fun c2 => absurd c2 (by decide))
  refine lv_iconst (v := 0) hx hb dX12_feed_20 (by decide) ?_
  refine lv_istore (lv' := [(6, .int 0), (0, .ref a0), (1, .int k1), (2, .int k2), (3, .int k3), (4, .int k4), (5, .int k5)]) hx hb dX12_feed_21 hl (by decide) rfl (fun ls hl => ?_)
  refine lv_iload hx hb dX12_feed_23 (lv_at hl 0 rfl) ?_
  refine lv_bipush (v := 20) hx hb dX12_feed_25 (by decide) ?_
  refine lv_icmp_ge (tgt := 117) hx hb dX12_feed_27 (by decide) (fun c3 => absurd c3 (by decide)) (fun _ => ?_)
  refine lv_iload hx hb dX12_feed_30 (lv_at hl 0 rfl) ?_
  refine lv_iconst (v := 4) hx hb dX12_feed_32 (by decide) ?_
  refine lv_icmp_ge (tgt := 40) hx hb dX12_feed_33 (by decide) (fun c4 => absurd c4 (by decide)) (fun _ => ?_)
  refine lv_iload_n hx hb dX12_feed_36 rfl (lv_at hl 2 rfl) ?_
  refine lv_goto (tgt := 76) hx hb dX12_feed_37 (by decide) ?_
  refine lv_istore (lv' := [(7, .int k1), (6, .int 0), (0, .ref a0), (1, .int k1), (2, .int k2), (3, .int k3), (4, .int k4), (5, .int k5)]) hx hb dX12_feed_76 hl (by decide) rfl (fun ls hl => ?_)
  refine lv_aload_n hx hb dX12_feed_78 rfl (lv_at hl 2 rfl) ?_
  refine va_get (D := (dC, dI)) (ci := 9) (v := .ref a6) (C := RX12) (T := TX12) (N := 30) hx hb hts iX12_feed_X12 hown hK hP 0 rfl rfl 5 (by decide) (hts (.fieldLink RX12 13 "HookPierModel" "tape" "[B") (List.mem_of_getElem? (i := 3) rfl)) (fun _ h9 => h9) rfl dX12_feed_79 ?_
  refine lv_aload_n hx hb dX12_feed_82 rfl (lv_at hl 2 rfl) ?_
  refine va_get (D := (dC, dI)) (ci := 9) (v := .int 0) (C := RX12) (T := TX12) (N := 30) hx hb hts iX12_feed_X12 hown hK hP 0 rfl rfl 6 (by decide) (hts (.fieldLink RX12 292 "HookPierModel" "taped" "I") (List.mem_of_getElem? (i := 2) rfl)) (fun _ h9 => h9) rfl dX12_feed_83 ?_
  refine lv_iload hx hb dX12_feed_86 (lv_at hl 0 rfl) ?_
  refine lv_bipush (v := 24) hx hb dX12_feed_88 (by decide) ?_
  refine lv_bipush (v := 8) hx hb dX12_feed_90 (by decide) ?_
  refine lv_iload hx hb dX12_feed_92 (lv_at hl 1 rfl) ?_
  refine lv_iconst (v := 4) hx hb dX12_feed_94 (by decide) ?_
  refine lv_irem hx hb dX12_feed_95 (by decide) ?_
  refine lv_topi (fun z5 ez5 => ?_)
  obtain rfl : z5 = 0 := ez5.trans (by decide)
  refine lv_imul hx hb dX12_feed_96 ?_
  refine lv_topi (fun z6 ez6 => ?_)
  obtain rfl : z6 = 0 := ez6.trans (by decide)
  refine lv_isub hx hb dX12_feed_97 ?_
  refine lv_topi (fun z7 ez7 => ?_)
  obtain rfl : z7 = 24 := ez7.trans (by decide)
  refine lv_ishr hx hb dX12_feed_98 ?_
  refine lv_topi (fun z8 _ => ?_)
  refine lv_i2b hx hb dX12_feed_99 rfl ?_
  refine lv_topi (fun z9 _ => ?_)
  refine va_bast hx hb hK hP hD hS 1 0 rfl rfl (by unfold vp_in; decide) dX12_feed_100 (fun H locs hP hD hS => ?_)
  have hP : va_P (dC, dI) vwCl [(a0, .inr (9, [.int 0, g8, g9, g10, g11, .ref a6, .int 0, g12, g13, g14, g15, g16, g17, g18, g19, g20, g21, g22, g23, g24, g25, g26, g27, g28, g29, g30, g31, g32, g33, g34])), (a6, .inl (cB35, 900, .inl (upd f36 (0 : Int32).toNatClampNeg (vp_nar .byte z9))))] H := hP
  have hD : va_D A [(a0, .inr (9, [.int 0, g8, g9, g10, g11, .ref a6, .int 0, g12, g13, g14, g15, g16, g17, g18, g19, g20, g21, g22, g23, g24, g25, g26, g27, g28, g29, g30, g31, g32, g33, g34])), (a6, .inl (cB35, 900, .inl (upd f36 (0 : Int32).toNatClampNeg (vp_nar .byte z9))))] := hD
  generalize upd f36 (0 : Int32).toNatClampNeg (vp_nar .byte z9) = f10 at hP hD
  refine lv_aload_n hx hb dX12_feed_101 rfl (lv_at hl 2 rfl) ?_
  refine lv_dup hx hb dX12_feed_102 rfl ?_
  refine va_get (D := (dC, dI)) (ci := 9) (v := .int 0) (C := RX12) (T := TX12) (N := 30) hx hb hts iX12_feed_X12 hown hK hP 0 rfl rfl 6 (by decide) (hts (.fieldLink RX12 292 "HookPierModel" "taped" "I") (List.mem_of_getElem? (i := 2) rfl)) (fun _ h9 => h9) rfl dX12_feed_103 ?_
  refine lv_iconst (v := 1) hx hb dX12_feed_106 (by decide) ?_
  refine lv_iadd hx hb dX12_feed_107 ?_
  refine lv_topi (fun z11 ez11 => ?_)
  obtain rfl : z11 = 1 := ez11.trans (by decide)
  refine va_put (D := (dC, dI)) (ci := 9) (v := .int 1) (ty := .int) (C := RX12) (T := TX12) (N := 30) hx hb hts iX12_feed_X12 tyX12 tyX12_ok nmX12 hown hK hP hD hS 0 rfl rfl 6 (by decide) (hts (.fieldLink RX12 292 "HookPierModel" "taped" "I") (List.mem_of_getElem? (i := 2) rfl)) (fun _ h9 => h9) rfl (by decide +kernel) rfl rfl (Nat.le_of_ble_eq_true rfl) dX12_feed_108 (fun H locs hP hD hS => ?_)
  have hP : va_P (dC, dI) vwCl [(a0, .inr (9, [.int 0, g8, g9, g10, g11, .ref a6, .int 1, g12, g13, g14, g15, g16, g17, g18, g19, g20, g21, g22, g23, g24, g25, g26, g27, g28, g29, g30, g31, g32, g33, g34])), (a6, .inl (cB35, 900, .inl f10))] H := hP
  have hD : va_D A [(a0, .inr (9, [.int 0, g8, g9, g10, g11, .ref a6, .int 1, g12, g13, g14, g15, g16, g17, g18, g19, g20, g21, g22, g23, g24, g25, g26, g27, g28, g29, g30, g31, g32, g33, g34])), (a6, .inl (cB35, 900, .inl f10))] := hD
  refine lv_iinc (v := 1) (lv' := [(6, .int 1), (7, .int k1), (0, .ref a0), (1, .int k1), (2, .int k2), (3, .int k3), (4, .int k4), (5, .int k5)]) hx hb dX12_feed_111 hl (k := 1) rfl (by decide) (by decide) rfl (fun ls hl => ?_)
  refine lv_goto (tgt := 23) hx hb dX12_feed_114 (by decide) ?_
  refine lv_iload hx hb dX12_feed_23 (lv_at hl 0 rfl) ?_
  refine lv_bipush (v := 20) hx hb dX12_feed_25 (by decide) ?_
  refine lv_icmp_ge (tgt := 117) hx hb dX12_feed_27 (by decide) (fun c12 => absurd c12 (by decide)) (fun _ => ?_)
  refine lv_iload hx hb dX12_feed_30 (lv_at hl 0 rfl) ?_
  refine lv_iconst (v := 4) hx hb dX12_feed_32 (by decide) ?_
  refine lv_icmp_ge (tgt := 40) hx hb dX12_feed_33 (by decide) (fun c13 => absurd c13 (by decide)) (fun _ => ?_)
  refine lv_iload_n hx hb dX12_feed_36 rfl (lv_at hl 3 rfl) ?_
  refine lv_goto (tgt := 76) hx hb dX12_feed_37 (by decide) ?_
  refine lv_istore (lv' := [(7, .int k1), (6, .int 1), (0, .ref a0), (1, .int k1), (2, .int k2), (3, .int k3), (4, .int k4), (5, .int k5)]) hx hb dX12_feed_76 hl (by decide) rfl (fun ls hl => ?_)
  refine lv_aload_n hx hb dX12_feed_78 rfl (lv_at hl 2 rfl) ?_
  refine va_get (D := (dC, dI)) (ci := 9) (v := .ref a6) (C := RX12) (T := TX12) (N := 30) hx hb hts iX12_feed_X12 hown hK hP 0 rfl rfl 5 (by decide) (hts (.fieldLink RX12 13 "HookPierModel" "tape" "[B") (List.mem_of_getElem? (i := 3) rfl)) (fun _ h9 => h9) rfl dX12_feed_79 ?_
  refine lv_aload_n hx hb dX12_feed_82 rfl (lv_at hl 2 rfl) ?_
  refine va_get (D := (dC, dI)) (ci := 9) (v := .int 1) (C := RX12) (T := TX12) (N := 30) hx hb hts iX12_feed_X12 hown hK hP 0 rfl rfl 6 (by decide) (hts (.fieldLink RX12 292 "HookPierModel" "taped" "I") (List.mem_of_getElem? (i := 2) rfl)) (fun _ h9 => h9) rfl dX12_feed_83 ?_
  refine lv_iload hx hb dX12_feed_86 (lv_at hl 0 rfl) ?_
  refine lv_bipush (v := 24) hx hb dX12_feed_88 (by decide) ?_
  refine lv_bipush (v := 8) hx hb dX12_feed_90 (by decide) ?_
  refine lv_iload hx hb dX12_feed_92 (lv_at hl 1 rfl) ?_
  refine lv_iconst (v := 4) hx hb dX12_feed_94 (by decide) ?_
  refine lv_irem hx hb dX12_feed_95 (by decide) ?_
  refine lv_topi (fun z14 ez14 => ?_)
  obtain rfl : z14 = 1 := ez14.trans (by decide)
  refine lv_imul hx hb dX12_feed_96 ?_
  refine lv_topi (fun z15 ez15 => ?_)
  obtain rfl : z15 = 8 := ez15.trans (by decide)
  refine lv_isub hx hb dX12_feed_97 ?_
  refine lv_topi (fun z16 ez16 => ?_)
  obtain rfl : z16 = 16 := ez16.trans (by decide)
  refine lv_ishr hx hb dX12_feed_98 ?_
  refine lv_topi (fun z17 _ => ?_)
  refine lv_i2b hx hb dX12_feed_99 rfl ?_
  refine lv_topi (fun z18 _ => ?_)
  refine va_bast hx hb hK hP hD hS 1 0 rfl rfl (by unfold vp_in; decide) dX12_feed_100 (fun H locs hP hD hS => ?_)
  have hP : va_P (dC, dI) vwCl [(a0, .inr (9, [.int 0, g8, g9, g10, g11, .ref a6, .int 1, g12, g13, g14, g15, g16, g17, g18, g19, g20, g21, g22, g23, g24, g25, g26, g27, g28, g29, g30, g31, g32, g33, g34])), (a6, .inl (cB35, 900, .inl (upd f10 (1 : Int32).toNatClampNeg (vp_nar .byte z18))))] H := hP
  have hD : va_D A [(a0, .inr (9, [.int 0, g8, g9, g10, g11, .ref a6, .int 1, g12, g13, g14, g15, g16, g17, g18, g19, g20, g21, g22, g23, g24, g25, g26, g27, g28, g29, g30, g31, g32, g33, g34])), (a6, .inl (cB35, 900, .inl (upd f10 (1 : Int32).toNatClampNeg (vp_nar .byte z18))))] := hD
  generalize upd f10 (1 : Int32).toNatClampNeg (vp_nar .byte z18) = f19 at hP hD
  refine lv_aload_n hx hb dX12_feed_101 rfl (lv_at hl 2 rfl) ?_
  refine lv_dup hx hb dX12_feed_102 rfl ?_
  refine va_get (D := (dC, dI)) (ci := 9) (v := .int 1) (C := RX12) (T := TX12) (N := 30) hx hb hts iX12_feed_X12 hown hK hP 0 rfl rfl 6 (by decide) (hts (.fieldLink RX12 292 "HookPierModel" "taped" "I") (List.mem_of_getElem? (i := 2) rfl)) (fun _ h9 => h9) rfl dX12_feed_103 ?_
  refine lv_iconst (v := 1) hx hb dX12_feed_106 (by decide) ?_
  refine lv_iadd hx hb dX12_feed_107 ?_
  refine lv_topi (fun z20 ez20 => ?_)
  obtain rfl : z20 = 2 := ez20.trans (by decide)
  refine va_put (D := (dC, dI)) (ci := 9) (v := .int 2) (ty := .int) (C := RX12) (T := TX12) (N := 30) hx hb hts iX12_feed_X12 tyX12 tyX12_ok nmX12 hown hK hP hD hS 0 rfl rfl 6 (by decide) (hts (.fieldLink RX12 292 "HookPierModel" "taped" "I") (List.mem_of_getElem? (i := 2) rfl)) (fun _ h9 => h9) rfl (by decide +kernel) rfl rfl (Nat.le_of_ble_eq_true rfl) dX12_feed_108 (fun H locs hP hD hS => ?_)
  have hP : va_P (dC, dI) vwCl [(a0, .inr (9, [.int 0, g8, g9, g10, g11, .ref a6, .int 2, g12, g13, g14, g15, g16, g17, g18, g19, g20, g21, g22, g23, g24, g25, g26, g27, g28, g29, g30, g31, g32, g33, g34])), (a6, .inl (cB35, 900, .inl f19))] H := hP
  have hD : va_D A [(a0, .inr (9, [.int 0, g8, g9, g10, g11, .ref a6, .int 2, g12, g13, g14, g15, g16, g17, g18, g19, g20, g21, g22, g23, g24, g25, g26, g27, g28, g29, g30, g31, g32, g33, g34])), (a6, .inl (cB35, 900, .inl f19))] := hD
  refine lv_iinc (v := 2) (lv' := [(6, .int 2), (7, .int k1), (0, .ref a0), (1, .int k1), (2, .int k2), (3, .int k3), (4, .int k4), (5, .int k5)]) hx hb dX12_feed_111 hl (k := 1) rfl (by decide) (by decide) rfl (fun ls hl => ?_)
  refine lv_goto (tgt := 23) hx hb dX12_feed_114 (by decide) ?_
  refine lv_iload hx hb dX12_feed_23 (lv_at hl 0 rfl) ?_
  refine lv_bipush (v := 20) hx hb dX12_feed_25 (by decide) ?_
  refine lv_icmp_ge (tgt := 117) hx hb dX12_feed_27 (by decide) (fun c21 => absurd c21 (by decide)) (fun _ => ?_)
  refine lv_iload hx hb dX12_feed_30 (lv_at hl 0 rfl) ?_
  refine lv_iconst (v := 4) hx hb dX12_feed_32 (by decide) ?_
  refine lv_icmp_ge (tgt := 40) hx hb dX12_feed_33 (by decide) (fun c22 => absurd c22 (by decide)) (fun _ => ?_)
  refine lv_iload_n hx hb dX12_feed_36 rfl (lv_at hl 3 rfl) ?_
  refine lv_goto (tgt := 76) hx hb dX12_feed_37 (by decide) ?_
  refine lv_istore (lv' := [(7, .int k1), (6, .int 2), (0, .ref a0), (1, .int k1), (2, .int k2), (3, .int k3), (4, .int k4), (5, .int k5)]) hx hb dX12_feed_76 hl (by decide) rfl (fun ls hl => ?_)
  refine lv_aload_n hx hb dX12_feed_78 rfl (lv_at hl 2 rfl) ?_
  refine va_get (D := (dC, dI)) (ci := 9) (v := .ref a6) (C := RX12) (T := TX12) (N := 30) hx hb hts iX12_feed_X12 hown hK hP 0 rfl rfl 5 (by decide) (hts (.fieldLink RX12 13 "HookPierModel" "tape" "[B") (List.mem_of_getElem? (i := 3) rfl)) (fun _ h9 => h9) rfl dX12_feed_79 ?_
  refine lv_aload_n hx hb dX12_feed_82 rfl (lv_at hl 2 rfl) ?_
  refine va_get (D := (dC, dI)) (ci := 9) (v := .int 2) (C := RX12) (T := TX12) (N := 30) hx hb hts iX12_feed_X12 hown hK hP 0 rfl rfl 6 (by decide) (hts (.fieldLink RX12 292 "HookPierModel" "taped" "I") (List.mem_of_getElem? (i := 2) rfl)) (fun _ h9 => h9) rfl dX12_feed_83 ?_
  refine lv_iload hx hb dX12_feed_86 (lv_at hl 0 rfl) ?_
  refine lv_bipush (v := 24) hx hb dX12_feed_88 (by decide) ?_
  refine lv_bipush (v := 8) hx hb dX12_feed_90 (by decide) ?_
  refine lv_iload hx hb dX12_feed_92 (lv_at hl 1 rfl) ?_
  refine lv_iconst (v := 4) hx hb dX12_feed_94 (by decide) ?_
  refine lv_irem hx hb dX12_feed_95 (by decide) ?_
  refine lv_topi (fun z23 ez23 => ?_)
  obtain rfl : z23 = 2 := ez23.trans (by decide)
  refine lv_imul hx hb dX12_feed_96 ?_
  refine lv_topi (fun z24 ez24 => ?_)
  obtain rfl : z24 = 16 := ez24.trans (by decide)
  refine lv_isub hx hb dX12_feed_97 ?_
  refine lv_topi (fun z25 ez25 => ?_)
  obtain rfl : z25 = 8 := ez25.trans (by decide)
  refine lv_ishr hx hb dX12_feed_98 ?_
  refine lv_topi (fun z26 _ => ?_)
  refine lv_i2b hx hb dX12_feed_99 rfl ?_
  refine lv_topi (fun z27 _ => ?_)
  refine va_bast hx hb hK hP hD hS 1 0 rfl rfl (by unfold vp_in; decide) dX12_feed_100 (fun H locs hP hD hS => ?_)
  have hP : va_P (dC, dI) vwCl [(a0, .inr (9, [.int 0, g8, g9, g10, g11, .ref a6, .int 2, g12, g13, g14, g15, g16, g17, g18, g19, g20, g21, g22, g23, g24, g25, g26, g27, g28, g29, g30, g31, g32, g33, g34])), (a6, .inl (cB35, 900, .inl (upd f19 (2 : Int32).toNatClampNeg (vp_nar .byte z27))))] H := hP
  have hD : va_D A [(a0, .inr (9, [.int 0, g8, g9, g10, g11, .ref a6, .int 2, g12, g13, g14, g15, g16, g17, g18, g19, g20, g21, g22, g23, g24, g25, g26, g27, g28, g29, g30, g31, g32, g33, g34])), (a6, .inl (cB35, 900, .inl (upd f19 (2 : Int32).toNatClampNeg (vp_nar .byte z27))))] := hD
  generalize upd f19 (2 : Int32).toNatClampNeg (vp_nar .byte z27) = f28 at hP hD
  refine lv_aload_n hx hb dX12_feed_101 rfl (lv_at hl 2 rfl) ?_
  refine lv_dup hx hb dX12_feed_102 rfl ?_
  refine va_get (D := (dC, dI)) (ci := 9) (v := .int 2) (C := RX12) (T := TX12) (N := 30) hx hb hts iX12_feed_X12 hown hK hP 0 rfl rfl 6 (by decide) (hts (.fieldLink RX12 292 "HookPierModel" "taped" "I") (List.mem_of_getElem? (i := 2) rfl)) (fun _ h9 => h9) rfl dX12_feed_103 ?_
  refine lv_iconst (v := 1) hx hb dX12_feed_106 (by decide) ?_
  refine lv_iadd hx hb dX12_feed_107 ?_
  refine lv_topi (fun z29 ez29 => ?_)
  obtain rfl : z29 = 3 := ez29.trans (by decide)
  refine va_put (D := (dC, dI)) (ci := 9) (v := .int 3) (ty := .int) (C := RX12) (T := TX12) (N := 30) hx hb hts iX12_feed_X12 tyX12 tyX12_ok nmX12 hown hK hP hD hS 0 rfl rfl 6 (by decide) (hts (.fieldLink RX12 292 "HookPierModel" "taped" "I") (List.mem_of_getElem? (i := 2) rfl)) (fun _ h9 => h9) rfl (by decide +kernel) rfl rfl (Nat.le_of_ble_eq_true rfl) dX12_feed_108 (fun H locs hP hD hS => ?_)
  have hP : va_P (dC, dI) vwCl [(a0, .inr (9, [.int 0, g8, g9, g10, g11, .ref a6, .int 3, g12, g13, g14, g15, g16, g17, g18, g19, g20, g21, g22, g23, g24, g25, g26, g27, g28, g29, g30, g31, g32, g33, g34])), (a6, .inl (cB35, 900, .inl f28))] H := hP
  have hD : va_D A [(a0, .inr (9, [.int 0, g8, g9, g10, g11, .ref a6, .int 3, g12, g13, g14, g15, g16, g17, g18, g19, g20, g21, g22, g23, g24, g25, g26, g27, g28, g29, g30, g31, g32, g33, g34])), (a6, .inl (cB35, 900, .inl f28))] := hD
  refine lv_iinc (v := 3) (lv' := [(6, .int 3), (7, .int k1), (0, .ref a0), (1, .int k1), (2, .int k2), (3, .int k3), (4, .int k4), (5, .int k5)]) hx hb dX12_feed_111 hl (k := 1) rfl (by decide) (by decide) rfl (fun ls hl => ?_)
  refine lv_goto (tgt := 23) hx hb dX12_feed_114 (by decide) ?_
  refine lv_iload hx hb dX12_feed_23 (lv_at hl 0 rfl) ?_
  refine lv_bipush (v := 20) hx hb dX12_feed_25 (by decide) ?_
  refine lv_icmp_ge (tgt := 117) hx hb dX12_feed_27 (by decide) (fun c30 => absurd c30 (by decide)) (fun _ => ?_)
  refine lv_iload hx hb dX12_feed_30 (lv_at hl 0 rfl) ?_
  refine lv_iconst (v := 4) hx hb dX12_feed_32 (by decide) ?_
  refine lv_icmp_ge (tgt := 40) hx hb dX12_feed_33 (by decide) (fun c31 => absurd c31 (by decide)) (fun _ => ?_)
  refine lv_iload_n hx hb dX12_feed_36 rfl (lv_at hl 3 rfl) ?_
  refine lv_goto (tgt := 76) hx hb dX12_feed_37 (by decide) ?_
  refine lv_istore (lv' := [(7, .int k1), (6, .int 3), (0, .ref a0), (1, .int k1), (2, .int k2), (3, .int k3), (4, .int k4), (5, .int k5)]) hx hb dX12_feed_76 hl (by decide) rfl (fun ls hl => ?_)
  refine lv_aload_n hx hb dX12_feed_78 rfl (lv_at hl 2 rfl) ?_
  refine va_get (D := (dC, dI)) (ci := 9) (v := .ref a6) (C := RX12) (T := TX12) (N := 30) hx hb hts iX12_feed_X12 hown hK hP 0 rfl rfl 5 (by decide) (hts (.fieldLink RX12 13 "HookPierModel" "tape" "[B") (List.mem_of_getElem? (i := 3) rfl)) (fun _ h9 => h9) rfl dX12_feed_79 ?_
  refine lv_aload_n hx hb dX12_feed_82 rfl (lv_at hl 2 rfl) ?_
  refine va_get (D := (dC, dI)) (ci := 9) (v := .int 3) (C := RX12) (T := TX12) (N := 30) hx hb hts iX12_feed_X12 hown hK hP 0 rfl rfl 6 (by decide) (hts (.fieldLink RX12 292 "HookPierModel" "taped" "I") (List.mem_of_getElem? (i := 2) rfl)) (fun _ h9 => h9) rfl dX12_feed_83 ?_
  refine lv_iload hx hb dX12_feed_86 (lv_at hl 0 rfl) ?_
  refine lv_bipush (v := 24) hx hb dX12_feed_88 (by decide) ?_
  refine lv_bipush (v := 8) hx hb dX12_feed_90 (by decide) ?_
  refine lv_iload hx hb dX12_feed_92 (lv_at hl 1 rfl) ?_
  refine lv_iconst (v := 4) hx hb dX12_feed_94 (by decide) ?_
  refine lv_irem hx hb dX12_feed_95 (by decide) ?_
  refine lv_topi (fun z32 ez32 => ?_)
  obtain rfl : z32 = 3 := ez32.trans (by decide)
  refine lv_imul hx hb dX12_feed_96 ?_
  refine lv_topi (fun z33 ez33 => ?_)
  obtain rfl : z33 = 24 := ez33.trans (by decide)
  refine lv_isub hx hb dX12_feed_97 ?_
  refine lv_topi (fun z34 ez34 => ?_)
  obtain rfl : z34 = 0 := ez34.trans (by decide)
  refine lv_ishr hx hb dX12_feed_98 ?_
  refine lv_topi (fun z35 _ => ?_)
  refine lv_i2b hx hb dX12_feed_99 rfl ?_
  refine lv_topi (fun z36 _ => ?_)
  refine va_bast hx hb hK hP hD hS 1 0 rfl rfl (by unfold vp_in; decide) dX12_feed_100 (fun H locs hP hD hS => ?_)
  have hP : va_P (dC, dI) vwCl [(a0, .inr (9, [.int 0, g8, g9, g10, g11, .ref a6, .int 3, g12, g13, g14, g15, g16, g17, g18, g19, g20, g21, g22, g23, g24, g25, g26, g27, g28, g29, g30, g31, g32, g33, g34])), (a6, .inl (cB35, 900, .inl (upd f28 (3 : Int32).toNatClampNeg (vp_nar .byte z36))))] H := hP
  have hD : va_D A [(a0, .inr (9, [.int 0, g8, g9, g10, g11, .ref a6, .int 3, g12, g13, g14, g15, g16, g17, g18, g19, g20, g21, g22, g23, g24, g25, g26, g27, g28, g29, g30, g31, g32, g33, g34])), (a6, .inl (cB35, 900, .inl (upd f28 (3 : Int32).toNatClampNeg (vp_nar .byte z36))))] := hD
  generalize upd f28 (3 : Int32).toNatClampNeg (vp_nar .byte z36) = f37 at hP hD
  refine lv_aload_n hx hb dX12_feed_101 rfl (lv_at hl 2 rfl) ?_
  refine lv_dup hx hb dX12_feed_102 rfl ?_
  refine va_get (D := (dC, dI)) (ci := 9) (v := .int 3) (C := RX12) (T := TX12) (N := 30) hx hb hts iX12_feed_X12 hown hK hP 0 rfl rfl 6 (by decide) (hts (.fieldLink RX12 292 "HookPierModel" "taped" "I") (List.mem_of_getElem? (i := 2) rfl)) (fun _ h9 => h9) rfl dX12_feed_103 ?_
  refine lv_iconst (v := 1) hx hb dX12_feed_106 (by decide) ?_
  refine lv_iadd hx hb dX12_feed_107 ?_
  refine lv_topi (fun z38 ez38 => ?_)
  obtain rfl : z38 = 4 := ez38.trans (by decide)
  refine va_put (D := (dC, dI)) (ci := 9) (v := .int 4) (ty := .int) (C := RX12) (T := TX12) (N := 30) hx hb hts iX12_feed_X12 tyX12 tyX12_ok nmX12 hown hK hP hD hS 0 rfl rfl 6 (by decide) (hts (.fieldLink RX12 292 "HookPierModel" "taped" "I") (List.mem_of_getElem? (i := 2) rfl)) (fun _ h9 => h9) rfl (by decide +kernel) rfl rfl (Nat.le_of_ble_eq_true rfl) dX12_feed_108 (fun H locs hP hD hS => ?_)
  have hP : va_P (dC, dI) vwCl [(a0, .inr (9, [.int 0, g8, g9, g10, g11, .ref a6, .int 4, g12, g13, g14, g15, g16, g17, g18, g19, g20, g21, g22, g23, g24, g25, g26, g27, g28, g29, g30, g31, g32, g33, g34])), (a6, .inl (cB35, 900, .inl f37))] H := hP
  have hD : va_D A [(a0, .inr (9, [.int 0, g8, g9, g10, g11, .ref a6, .int 4, g12, g13, g14, g15, g16, g17, g18, g19, g20, g21, g22, g23, g24, g25, g26, g27, g28, g29, g30, g31, g32, g33, g34])), (a6, .inl (cB35, 900, .inl f37))] := hD
  refine lv_iinc (v := 4) (lv' := [(6, .int 4), (7, .int k1), (0, .ref a0), (1, .int k1), (2, .int k2), (3, .int k3), (4, .int k4), (5, .int k5)]) hx hb dX12_feed_111 hl (k := 1) rfl (by decide) (by decide) rfl (fun ls hl => ?_)
  refine lv_goto (tgt := 23) hx hb dX12_feed_114 (by decide) ?_
  refine lv_iload hx hb dX12_feed_23 (lv_at hl 0 rfl) ?_
  refine lv_bipush (v := 20) hx hb dX12_feed_25 (by decide) ?_
  refine lv_icmp_ge (tgt := 117) hx hb dX12_feed_27 (by decide) (fun c39 => absurd c39 (by decide)) (fun _ => ?_)
  refine lv_iload hx hb dX12_feed_30 (lv_at hl 0 rfl) ?_
  refine lv_iconst (v := 4) hx hb dX12_feed_32 (by decide) ?_
  refine lv_icmp_ge (tgt := 40) hx hb dX12_feed_33 (by decide) (fun _ => ?_) (fun c40 => absurd c40 (by decide))
  refine lv_iload hx hb dX12_feed_40 (lv_at hl 0 rfl) ?_
  refine lv_bipush (v := 8) hx hb dX12_feed_42 (by decide) ?_
  refine lv_icmp_ge (tgt := 51) hx hb dX12_feed_44 (by decide) (fun c41 => absurd c41 (by decide)) (fun _ => ?_)
  refine lv_iload_n hx hb dX12_feed_47 rfl (lv_at hl 4 rfl) ?_
  refine lv_goto (tgt := 76) hx hb dX12_feed_48 (by decide) ?_
  refine lv_istore (lv' := [(7, .int k2), (6, .int 4), (0, .ref a0), (1, .int k1), (2, .int k2), (3, .int k3), (4, .int k4), (5, .int k5)]) hx hb dX12_feed_76 hl (by decide) rfl (fun ls hl => ?_)
  refine lv_aload_n hx hb dX12_feed_78 rfl (lv_at hl 2 rfl) ?_
  refine va_get (D := (dC, dI)) (ci := 9) (v := .ref a6) (C := RX12) (T := TX12) (N := 30) hx hb hts iX12_feed_X12 hown hK hP 0 rfl rfl 5 (by decide) (hts (.fieldLink RX12 13 "HookPierModel" "tape" "[B") (List.mem_of_getElem? (i := 3) rfl)) (fun _ h9 => h9) rfl dX12_feed_79 ?_
  refine lv_aload_n hx hb dX12_feed_82 rfl (lv_at hl 2 rfl) ?_
  refine va_get (D := (dC, dI)) (ci := 9) (v := .int 4) (C := RX12) (T := TX12) (N := 30) hx hb hts iX12_feed_X12 hown hK hP 0 rfl rfl 6 (by decide) (hts (.fieldLink RX12 292 "HookPierModel" "taped" "I") (List.mem_of_getElem? (i := 2) rfl)) (fun _ h9 => h9) rfl dX12_feed_83 ?_
  refine lv_iload hx hb dX12_feed_86 (lv_at hl 0 rfl) ?_
  refine lv_bipush (v := 24) hx hb dX12_feed_88 (by decide) ?_
  refine lv_bipush (v := 8) hx hb dX12_feed_90 (by decide) ?_
  refine lv_iload hx hb dX12_feed_92 (lv_at hl 1 rfl) ?_
  refine lv_iconst (v := 4) hx hb dX12_feed_94 (by decide) ?_
  refine lv_irem hx hb dX12_feed_95 (by decide) ?_
  refine lv_topi (fun z42 ez42 => ?_)
  obtain rfl : z42 = 0 := ez42.trans (by decide)
  refine lv_imul hx hb dX12_feed_96 ?_
  refine lv_topi (fun z43 ez43 => ?_)
  obtain rfl : z43 = 0 := ez43.trans (by decide)
  refine lv_isub hx hb dX12_feed_97 ?_
  refine lv_topi (fun z44 ez44 => ?_)
  obtain rfl : z44 = 24 := ez44.trans (by decide)
  refine lv_ishr hx hb dX12_feed_98 ?_
  refine lv_topi (fun z45 _ => ?_)
  refine lv_i2b hx hb dX12_feed_99 rfl ?_
  refine lv_topi (fun z46 _ => ?_)
  refine va_bast hx hb hK hP hD hS 1 0 rfl rfl (by unfold vp_in; decide) dX12_feed_100 (fun H locs hP hD hS => ?_)
  have hP : va_P (dC, dI) vwCl [(a0, .inr (9, [.int 0, g8, g9, g10, g11, .ref a6, .int 4, g12, g13, g14, g15, g16, g17, g18, g19, g20, g21, g22, g23, g24, g25, g26, g27, g28, g29, g30, g31, g32, g33, g34])), (a6, .inl (cB35, 900, .inl (upd f37 (4 : Int32).toNatClampNeg (vp_nar .byte z46))))] H := hP
  have hD : va_D A [(a0, .inr (9, [.int 0, g8, g9, g10, g11, .ref a6, .int 4, g12, g13, g14, g15, g16, g17, g18, g19, g20, g21, g22, g23, g24, g25, g26, g27, g28, g29, g30, g31, g32, g33, g34])), (a6, .inl (cB35, 900, .inl (upd f37 (4 : Int32).toNatClampNeg (vp_nar .byte z46))))] := hD
  generalize upd f37 (4 : Int32).toNatClampNeg (vp_nar .byte z46) = f47 at hP hD
  refine lv_aload_n hx hb dX12_feed_101 rfl (lv_at hl 2 rfl) ?_
  refine lv_dup hx hb dX12_feed_102 rfl ?_
  refine va_get (D := (dC, dI)) (ci := 9) (v := .int 4) (C := RX12) (T := TX12) (N := 30) hx hb hts iX12_feed_X12 hown hK hP 0 rfl rfl 6 (by decide) (hts (.fieldLink RX12 292 "HookPierModel" "taped" "I") (List.mem_of_getElem? (i := 2) rfl)) (fun _ h9 => h9) rfl dX12_feed_103 ?_
  refine lv_iconst (v := 1) hx hb dX12_feed_106 (by decide) ?_
  refine lv_iadd hx hb dX12_feed_107 ?_
  refine lv_topi (fun z48 ez48 => ?_)
  obtain rfl : z48 = 5 := ez48.trans (by decide)
  refine va_put (D := (dC, dI)) (ci := 9) (v := .int 5) (ty := .int) (C := RX12) (T := TX12) (N := 30) hx hb hts iX12_feed_X12 tyX12 tyX12_ok nmX12 hown hK hP hD hS 0 rfl rfl 6 (by decide) (hts (.fieldLink RX12 292 "HookPierModel" "taped" "I") (List.mem_of_getElem? (i := 2) rfl)) (fun _ h9 => h9) rfl (by decide +kernel) rfl rfl (Nat.le_of_ble_eq_true rfl) dX12_feed_108 (fun H locs hP hD hS => ?_)
  have hP : va_P (dC, dI) vwCl [(a0, .inr (9, [.int 0, g8, g9, g10, g11, .ref a6, .int 5, g12, g13, g14, g15, g16, g17, g18, g19, g20, g21, g22, g23, g24, g25, g26, g27, g28, g29, g30, g31, g32, g33, g34])), (a6, .inl (cB35, 900, .inl f47))] H := hP
  have hD : va_D A [(a0, .inr (9, [.int 0, g8, g9, g10, g11, .ref a6, .int 5, g12, g13, g14, g15, g16, g17, g18, g19, g20, g21, g22, g23, g24, g25, g26, g27, g28, g29, g30, g31, g32, g33, g34])), (a6, .inl (cB35, 900, .inl f47))] := hD
  refine lv_iinc (v := 5) (lv' := [(6, .int 5), (7, .int k2), (0, .ref a0), (1, .int k1), (2, .int k2), (3, .int k3), (4, .int k4), (5, .int k5)]) hx hb dX12_feed_111 hl (k := 1) rfl (by decide) (by decide) rfl (fun ls hl => ?_)
  refine lv_goto (tgt := 23) hx hb dX12_feed_114 (by decide) ?_
  refine lv_iload hx hb dX12_feed_23 (lv_at hl 0 rfl) ?_
  refine lv_bipush (v := 20) hx hb dX12_feed_25 (by decide) ?_
  refine lv_icmp_ge (tgt := 117) hx hb dX12_feed_27 (by decide) (fun c49 => absurd c49 (by decide)) (fun _ => ?_)
  refine lv_iload hx hb dX12_feed_30 (lv_at hl 0 rfl) ?_
  refine lv_iconst (v := 4) hx hb dX12_feed_32 (by decide) ?_
  refine lv_icmp_ge (tgt := 40) hx hb dX12_feed_33 (by decide) (fun _ => ?_) (fun c50 => absurd c50 (by decide))
  refine lv_iload hx hb dX12_feed_40 (lv_at hl 0 rfl) ?_
  refine lv_bipush (v := 8) hx hb dX12_feed_42 (by decide) ?_
  refine lv_icmp_ge (tgt := 51) hx hb dX12_feed_44 (by decide) (fun c51 => absurd c51 (by decide)) (fun _ => ?_)
  refine lv_iload_n hx hb dX12_feed_47 rfl (lv_at hl 4 rfl) ?_
  refine lv_goto (tgt := 76) hx hb dX12_feed_48 (by decide) ?_
  refine lv_istore (lv' := [(7, .int k2), (6, .int 5), (0, .ref a0), (1, .int k1), (2, .int k2), (3, .int k3), (4, .int k4), (5, .int k5)]) hx hb dX12_feed_76 hl (by decide) rfl (fun ls hl => ?_)
  refine lv_aload_n hx hb dX12_feed_78 rfl (lv_at hl 2 rfl) ?_
  refine va_get (D := (dC, dI)) (ci := 9) (v := .ref a6) (C := RX12) (T := TX12) (N := 30) hx hb hts iX12_feed_X12 hown hK hP 0 rfl rfl 5 (by decide) (hts (.fieldLink RX12 13 "HookPierModel" "tape" "[B") (List.mem_of_getElem? (i := 3) rfl)) (fun _ h9 => h9) rfl dX12_feed_79 ?_
  refine lv_aload_n hx hb dX12_feed_82 rfl (lv_at hl 2 rfl) ?_
  refine va_get (D := (dC, dI)) (ci := 9) (v := .int 5) (C := RX12) (T := TX12) (N := 30) hx hb hts iX12_feed_X12 hown hK hP 0 rfl rfl 6 (by decide) (hts (.fieldLink RX12 292 "HookPierModel" "taped" "I") (List.mem_of_getElem? (i := 2) rfl)) (fun _ h9 => h9) rfl dX12_feed_83 ?_
  refine lv_iload hx hb dX12_feed_86 (lv_at hl 0 rfl) ?_
  refine lv_bipush (v := 24) hx hb dX12_feed_88 (by decide) ?_
  refine lv_bipush (v := 8) hx hb dX12_feed_90 (by decide) ?_
  refine lv_iload hx hb dX12_feed_92 (lv_at hl 1 rfl) ?_
  refine lv_iconst (v := 4) hx hb dX12_feed_94 (by decide) ?_
  refine lv_irem hx hb dX12_feed_95 (by decide) ?_
  refine lv_topi (fun z52 ez52 => ?_)
  obtain rfl : z52 = 1 := ez52.trans (by decide)
  refine lv_imul hx hb dX12_feed_96 ?_
  refine lv_topi (fun z53 ez53 => ?_)
  obtain rfl : z53 = 8 := ez53.trans (by decide)
  refine lv_isub hx hb dX12_feed_97 ?_
  refine lv_topi (fun z54 ez54 => ?_)
  obtain rfl : z54 = 16 := ez54.trans (by decide)
  refine lv_ishr hx hb dX12_feed_98 ?_
  refine lv_topi (fun z55 _ => ?_)
  refine lv_i2b hx hb dX12_feed_99 rfl ?_
  refine lv_topi (fun z56 _ => ?_)
  refine va_bast hx hb hK hP hD hS 1 0 rfl rfl (by unfold vp_in; decide) dX12_feed_100 (fun H locs hP hD hS => ?_)
  have hP : va_P (dC, dI) vwCl [(a0, .inr (9, [.int 0, g8, g9, g10, g11, .ref a6, .int 5, g12, g13, g14, g15, g16, g17, g18, g19, g20, g21, g22, g23, g24, g25, g26, g27, g28, g29, g30, g31, g32, g33, g34])), (a6, .inl (cB35, 900, .inl (upd f47 (5 : Int32).toNatClampNeg (vp_nar .byte z56))))] H := hP
  have hD : va_D A [(a0, .inr (9, [.int 0, g8, g9, g10, g11, .ref a6, .int 5, g12, g13, g14, g15, g16, g17, g18, g19, g20, g21, g22, g23, g24, g25, g26, g27, g28, g29, g30, g31, g32, g33, g34])), (a6, .inl (cB35, 900, .inl (upd f47 (5 : Int32).toNatClampNeg (vp_nar .byte z56))))] := hD
  generalize upd f47 (5 : Int32).toNatClampNeg (vp_nar .byte z56) = f57 at hP hD
  refine lv_aload_n hx hb dX12_feed_101 rfl (lv_at hl 2 rfl) ?_
  refine lv_dup hx hb dX12_feed_102 rfl ?_
  refine va_get (D := (dC, dI)) (ci := 9) (v := .int 5) (C := RX12) (T := TX12) (N := 30) hx hb hts iX12_feed_X12 hown hK hP 0 rfl rfl 6 (by decide) (hts (.fieldLink RX12 292 "HookPierModel" "taped" "I") (List.mem_of_getElem? (i := 2) rfl)) (fun _ h9 => h9) rfl dX12_feed_103 ?_
  refine lv_iconst (v := 1) hx hb dX12_feed_106 (by decide) ?_
  refine lv_iadd hx hb dX12_feed_107 ?_
  refine lv_topi (fun z58 ez58 => ?_)
  obtain rfl : z58 = 6 := ez58.trans (by decide)
  refine va_put (D := (dC, dI)) (ci := 9) (v := .int 6) (ty := .int) (C := RX12) (T := TX12) (N := 30) hx hb hts iX12_feed_X12 tyX12 tyX12_ok nmX12 hown hK hP hD hS 0 rfl rfl 6 (by decide) (hts (.fieldLink RX12 292 "HookPierModel" "taped" "I") (List.mem_of_getElem? (i := 2) rfl)) (fun _ h9 => h9) rfl (by decide +kernel) rfl rfl (Nat.le_of_ble_eq_true rfl) dX12_feed_108 (fun H locs hP hD hS => ?_)
  have hP : va_P (dC, dI) vwCl [(a0, .inr (9, [.int 0, g8, g9, g10, g11, .ref a6, .int 6, g12, g13, g14, g15, g16, g17, g18, g19, g20, g21, g22, g23, g24, g25, g26, g27, g28, g29, g30, g31, g32, g33, g34])), (a6, .inl (cB35, 900, .inl f57))] H := hP
  have hD : va_D A [(a0, .inr (9, [.int 0, g8, g9, g10, g11, .ref a6, .int 6, g12, g13, g14, g15, g16, g17, g18, g19, g20, g21, g22, g23, g24, g25, g26, g27, g28, g29, g30, g31, g32, g33, g34])), (a6, .inl (cB35, 900, .inl f57))] := hD
  refine lv_iinc (v := 6) (lv' := [(6, .int 6), (7, .int k2), (0, .ref a0), (1, .int k1), (2, .int k2), (3, .int k3), (4, .int k4), (5, .int k5)]) hx hb dX12_feed_111 hl (k := 1) rfl (by decide) (by decide) rfl (fun ls hl => ?_)
  refine lv_goto (tgt := 23) hx hb dX12_feed_114 (by decide) ?_
  refine lv_iload hx hb dX12_feed_23 (lv_at hl 0 rfl) ?_
  refine lv_bipush (v := 20) hx hb dX12_feed_25 (by decide) ?_
  refine lv_icmp_ge (tgt := 117) hx hb dX12_feed_27 (by decide) (fun c59 => absurd c59 (by decide)) (fun _ => ?_)
  refine lv_iload hx hb dX12_feed_30 (lv_at hl 0 rfl) ?_
  refine lv_iconst (v := 4) hx hb dX12_feed_32 (by decide) ?_
  refine lv_icmp_ge (tgt := 40) hx hb dX12_feed_33 (by decide) (fun _ => ?_) (fun c60 => absurd c60 (by decide))
  refine lv_iload hx hb dX12_feed_40 (lv_at hl 0 rfl) ?_
  refine lv_bipush (v := 8) hx hb dX12_feed_42 (by decide) ?_
  refine lv_icmp_ge (tgt := 51) hx hb dX12_feed_44 (by decide) (fun c61 => absurd c61 (by decide)) (fun _ => ?_)
  refine lv_iload_n hx hb dX12_feed_47 rfl (lv_at hl 4 rfl) ?_
  refine lv_goto (tgt := 76) hx hb dX12_feed_48 (by decide) ?_
  refine lv_istore (lv' := [(7, .int k2), (6, .int 6), (0, .ref a0), (1, .int k1), (2, .int k2), (3, .int k3), (4, .int k4), (5, .int k5)]) hx hb dX12_feed_76 hl (by decide) rfl (fun ls hl => ?_)
  refine lv_aload_n hx hb dX12_feed_78 rfl (lv_at hl 2 rfl) ?_
  refine va_get (D := (dC, dI)) (ci := 9) (v := .ref a6) (C := RX12) (T := TX12) (N := 30) hx hb hts iX12_feed_X12 hown hK hP 0 rfl rfl 5 (by decide) (hts (.fieldLink RX12 13 "HookPierModel" "tape" "[B") (List.mem_of_getElem? (i := 3) rfl)) (fun _ h9 => h9) rfl dX12_feed_79 ?_
  refine lv_aload_n hx hb dX12_feed_82 rfl (lv_at hl 2 rfl) ?_
  refine va_get (D := (dC, dI)) (ci := 9) (v := .int 6) (C := RX12) (T := TX12) (N := 30) hx hb hts iX12_feed_X12 hown hK hP 0 rfl rfl 6 (by decide) (hts (.fieldLink RX12 292 "HookPierModel" "taped" "I") (List.mem_of_getElem? (i := 2) rfl)) (fun _ h9 => h9) rfl dX12_feed_83 ?_
  refine lv_iload hx hb dX12_feed_86 (lv_at hl 0 rfl) ?_
  refine lv_bipush (v := 24) hx hb dX12_feed_88 (by decide) ?_
  refine lv_bipush (v := 8) hx hb dX12_feed_90 (by decide) ?_
  refine lv_iload hx hb dX12_feed_92 (lv_at hl 1 rfl) ?_
  refine lv_iconst (v := 4) hx hb dX12_feed_94 (by decide) ?_
  refine lv_irem hx hb dX12_feed_95 (by decide) ?_
  refine lv_topi (fun z62 ez62 => ?_)
  obtain rfl : z62 = 2 := ez62.trans (by decide)
  refine lv_imul hx hb dX12_feed_96 ?_
  refine lv_topi (fun z63 ez63 => ?_)
  obtain rfl : z63 = 16 := ez63.trans (by decide)
  refine lv_isub hx hb dX12_feed_97 ?_
  refine lv_topi (fun z64 ez64 => ?_)
  obtain rfl : z64 = 8 := ez64.trans (by decide)
  refine lv_ishr hx hb dX12_feed_98 ?_
  refine lv_topi (fun z65 _ => ?_)
  refine lv_i2b hx hb dX12_feed_99 rfl ?_
  refine lv_topi (fun z66 _ => ?_)
  refine va_bast hx hb hK hP hD hS 1 0 rfl rfl (by unfold vp_in; decide) dX12_feed_100 (fun H locs hP hD hS => ?_)
  have hP : va_P (dC, dI) vwCl [(a0, .inr (9, [.int 0, g8, g9, g10, g11, .ref a6, .int 6, g12, g13, g14, g15, g16, g17, g18, g19, g20, g21, g22, g23, g24, g25, g26, g27, g28, g29, g30, g31, g32, g33, g34])), (a6, .inl (cB35, 900, .inl (upd f57 (6 : Int32).toNatClampNeg (vp_nar .byte z66))))] H := hP
  have hD : va_D A [(a0, .inr (9, [.int 0, g8, g9, g10, g11, .ref a6, .int 6, g12, g13, g14, g15, g16, g17, g18, g19, g20, g21, g22, g23, g24, g25, g26, g27, g28, g29, g30, g31, g32, g33, g34])), (a6, .inl (cB35, 900, .inl (upd f57 (6 : Int32).toNatClampNeg (vp_nar .byte z66))))] := hD
  generalize upd f57 (6 : Int32).toNatClampNeg (vp_nar .byte z66) = f67 at hP hD
  refine lv_aload_n hx hb dX12_feed_101 rfl (lv_at hl 2 rfl) ?_
  refine lv_dup hx hb dX12_feed_102 rfl ?_
  refine va_get (D := (dC, dI)) (ci := 9) (v := .int 6) (C := RX12) (T := TX12) (N := 30) hx hb hts iX12_feed_X12 hown hK hP 0 rfl rfl 6 (by decide) (hts (.fieldLink RX12 292 "HookPierModel" "taped" "I") (List.mem_of_getElem? (i := 2) rfl)) (fun _ h9 => h9) rfl dX12_feed_103 ?_
  refine lv_iconst (v := 1) hx hb dX12_feed_106 (by decide) ?_
  refine lv_iadd hx hb dX12_feed_107 ?_
  refine lv_topi (fun z68 ez68 => ?_)
  obtain rfl : z68 = 7 := ez68.trans (by decide)
  refine va_put (D := (dC, dI)) (ci := 9) (v := .int 7) (ty := .int) (C := RX12) (T := TX12) (N := 30) hx hb hts iX12_feed_X12 tyX12 tyX12_ok nmX12 hown hK hP hD hS 0 rfl rfl 6 (by decide) (hts (.fieldLink RX12 292 "HookPierModel" "taped" "I") (List.mem_of_getElem? (i := 2) rfl)) (fun _ h9 => h9) rfl (by decide +kernel) rfl rfl (Nat.le_of_ble_eq_true rfl) dX12_feed_108 (fun H locs hP hD hS => ?_)
  have hP : va_P (dC, dI) vwCl [(a0, .inr (9, [.int 0, g8, g9, g10, g11, .ref a6, .int 7, g12, g13, g14, g15, g16, g17, g18, g19, g20, g21, g22, g23, g24, g25, g26, g27, g28, g29, g30, g31, g32, g33, g34])), (a6, .inl (cB35, 900, .inl f67))] H := hP
  have hD : va_D A [(a0, .inr (9, [.int 0, g8, g9, g10, g11, .ref a6, .int 7, g12, g13, g14, g15, g16, g17, g18, g19, g20, g21, g22, g23, g24, g25, g26, g27, g28, g29, g30, g31, g32, g33, g34])), (a6, .inl (cB35, 900, .inl f67))] := hD
  refine lv_iinc (v := 7) (lv' := [(6, .int 7), (7, .int k2), (0, .ref a0), (1, .int k1), (2, .int k2), (3, .int k3), (4, .int k4), (5, .int k5)]) hx hb dX12_feed_111 hl (k := 1) rfl (by decide) (by decide) rfl (fun ls hl => ?_)
  refine lv_goto (tgt := 23) hx hb dX12_feed_114 (by decide) ?_
  refine lv_iload hx hb dX12_feed_23 (lv_at hl 0 rfl) ?_
  refine lv_bipush (v := 20) hx hb dX12_feed_25 (by decide) ?_
  refine lv_icmp_ge (tgt := 117) hx hb dX12_feed_27 (by decide) (fun c69 => absurd c69 (by decide)) (fun _ => ?_)
  refine lv_iload hx hb dX12_feed_30 (lv_at hl 0 rfl) ?_
  refine lv_iconst (v := 4) hx hb dX12_feed_32 (by decide) ?_
  refine lv_icmp_ge (tgt := 40) hx hb dX12_feed_33 (by decide) (fun _ => ?_) (fun c70 => absurd c70 (by decide))
  refine lv_iload hx hb dX12_feed_40 (lv_at hl 0 rfl) ?_
  refine lv_bipush (v := 8) hx hb dX12_feed_42 (by decide) ?_
  refine lv_icmp_ge (tgt := 51) hx hb dX12_feed_44 (by decide) (fun c71 => absurd c71 (by decide)) (fun _ => ?_)
  refine lv_iload_n hx hb dX12_feed_47 rfl (lv_at hl 4 rfl) ?_
  refine lv_goto (tgt := 76) hx hb dX12_feed_48 (by decide) ?_
  refine lv_istore (lv' := [(7, .int k2), (6, .int 7), (0, .ref a0), (1, .int k1), (2, .int k2), (3, .int k3), (4, .int k4), (5, .int k5)]) hx hb dX12_feed_76 hl (by decide) rfl (fun ls hl => ?_)
  refine lv_aload_n hx hb dX12_feed_78 rfl (lv_at hl 2 rfl) ?_
  refine va_get (D := (dC, dI)) (ci := 9) (v := .ref a6) (C := RX12) (T := TX12) (N := 30) hx hb hts iX12_feed_X12 hown hK hP 0 rfl rfl 5 (by decide) (hts (.fieldLink RX12 13 "HookPierModel" "tape" "[B") (List.mem_of_getElem? (i := 3) rfl)) (fun _ h9 => h9) rfl dX12_feed_79 ?_
  refine lv_aload_n hx hb dX12_feed_82 rfl (lv_at hl 2 rfl) ?_
  refine va_get (D := (dC, dI)) (ci := 9) (v := .int 7) (C := RX12) (T := TX12) (N := 30) hx hb hts iX12_feed_X12 hown hK hP 0 rfl rfl 6 (by decide) (hts (.fieldLink RX12 292 "HookPierModel" "taped" "I") (List.mem_of_getElem? (i := 2) rfl)) (fun _ h9 => h9) rfl dX12_feed_83 ?_
  refine lv_iload hx hb dX12_feed_86 (lv_at hl 0 rfl) ?_
  refine lv_bipush (v := 24) hx hb dX12_feed_88 (by decide) ?_
  refine lv_bipush (v := 8) hx hb dX12_feed_90 (by decide) ?_
  refine lv_iload hx hb dX12_feed_92 (lv_at hl 1 rfl) ?_
  refine lv_iconst (v := 4) hx hb dX12_feed_94 (by decide) ?_
  refine lv_irem hx hb dX12_feed_95 (by decide) ?_
  refine lv_topi (fun z72 ez72 => ?_)
  obtain rfl : z72 = 3 := ez72.trans (by decide)
  refine lv_imul hx hb dX12_feed_96 ?_
  refine lv_topi (fun z73 ez73 => ?_)
  obtain rfl : z73 = 24 := ez73.trans (by decide)
  refine lv_isub hx hb dX12_feed_97 ?_
  refine lv_topi (fun z74 ez74 => ?_)
  obtain rfl : z74 = 0 := ez74.trans (by decide)
  refine lv_ishr hx hb dX12_feed_98 ?_
  refine lv_topi (fun z75 _ => ?_)
  refine lv_i2b hx hb dX12_feed_99 rfl ?_
  refine lv_topi (fun z76 _ => ?_)
  refine va_bast hx hb hK hP hD hS 1 0 rfl rfl (by unfold vp_in; decide) dX12_feed_100 (fun H locs hP hD hS => ?_)
  have hP : va_P (dC, dI) vwCl [(a0, .inr (9, [.int 0, g8, g9, g10, g11, .ref a6, .int 7, g12, g13, g14, g15, g16, g17, g18, g19, g20, g21, g22, g23, g24, g25, g26, g27, g28, g29, g30, g31, g32, g33, g34])), (a6, .inl (cB35, 900, .inl (upd f67 (7 : Int32).toNatClampNeg (vp_nar .byte z76))))] H := hP
  have hD : va_D A [(a0, .inr (9, [.int 0, g8, g9, g10, g11, .ref a6, .int 7, g12, g13, g14, g15, g16, g17, g18, g19, g20, g21, g22, g23, g24, g25, g26, g27, g28, g29, g30, g31, g32, g33, g34])), (a6, .inl (cB35, 900, .inl (upd f67 (7 : Int32).toNatClampNeg (vp_nar .byte z76))))] := hD
  generalize upd f67 (7 : Int32).toNatClampNeg (vp_nar .byte z76) = f77 at hP hD
  refine lv_aload_n hx hb dX12_feed_101 rfl (lv_at hl 2 rfl) ?_
  refine lv_dup hx hb dX12_feed_102 rfl ?_
  refine va_get (D := (dC, dI)) (ci := 9) (v := .int 7) (C := RX12) (T := TX12) (N := 30) hx hb hts iX12_feed_X12 hown hK hP 0 rfl rfl 6 (by decide) (hts (.fieldLink RX12 292 "HookPierModel" "taped" "I") (List.mem_of_getElem? (i := 2) rfl)) (fun _ h9 => h9) rfl dX12_feed_103 ?_
  refine lv_iconst (v := 1) hx hb dX12_feed_106 (by decide) ?_
  refine lv_iadd hx hb dX12_feed_107 ?_
  refine lv_topi (fun z78 ez78 => ?_)
  obtain rfl : z78 = 8 := ez78.trans (by decide)
  refine va_put (D := (dC, dI)) (ci := 9) (v := .int 8) (ty := .int) (C := RX12) (T := TX12) (N := 30) hx hb hts iX12_feed_X12 tyX12 tyX12_ok nmX12 hown hK hP hD hS 0 rfl rfl 6 (by decide) (hts (.fieldLink RX12 292 "HookPierModel" "taped" "I") (List.mem_of_getElem? (i := 2) rfl)) (fun _ h9 => h9) rfl (by decide +kernel) rfl rfl (Nat.le_of_ble_eq_true rfl) dX12_feed_108 (fun H locs hP hD hS => ?_)
  have hP : va_P (dC, dI) vwCl [(a0, .inr (9, [.int 0, g8, g9, g10, g11, .ref a6, .int 8, g12, g13, g14, g15, g16, g17, g18, g19, g20, g21, g22, g23, g24, g25, g26, g27, g28, g29, g30, g31, g32, g33, g34])), (a6, .inl (cB35, 900, .inl f77))] H := hP
  have hD : va_D A [(a0, .inr (9, [.int 0, g8, g9, g10, g11, .ref a6, .int 8, g12, g13, g14, g15, g16, g17, g18, g19, g20, g21, g22, g23, g24, g25, g26, g27, g28, g29, g30, g31, g32, g33, g34])), (a6, .inl (cB35, 900, .inl f77))] := hD
  refine lv_iinc (v := 8) (lv' := [(6, .int 8), (7, .int k2), (0, .ref a0), (1, .int k1), (2, .int k2), (3, .int k3), (4, .int k4), (5, .int k5)]) hx hb dX12_feed_111 hl (k := 1) rfl (by decide) (by decide) rfl (fun ls hl => ?_)
  refine lv_goto (tgt := 23) hx hb dX12_feed_114 (by decide) ?_
  refine lv_iload hx hb dX12_feed_23 (lv_at hl 0 rfl) ?_
  refine lv_bipush (v := 20) hx hb dX12_feed_25 (by decide) ?_
  refine lv_icmp_ge (tgt := 117) hx hb dX12_feed_27 (by decide) (fun c79 => absurd c79 (by decide)) (fun _ => ?_)
  refine lv_iload hx hb dX12_feed_30 (lv_at hl 0 rfl) ?_
  refine lv_iconst (v := 4) hx hb dX12_feed_32 (by decide) ?_
  refine lv_icmp_ge (tgt := 40) hx hb dX12_feed_33 (by decide) (fun _ => ?_) (fun c80 => absurd c80 (by decide))
  refine lv_iload hx hb dX12_feed_40 (lv_at hl 0 rfl) ?_
  refine lv_bipush (v := 8) hx hb dX12_feed_42 (by decide) ?_
  refine lv_icmp_ge (tgt := 51) hx hb dX12_feed_44 (by decide) (fun _ => ?_) (fun c81 => absurd c81 (by decide))
  refine lv_iload hx hb dX12_feed_51 (lv_at hl 0 rfl) ?_
  refine lv_bipush (v := 12) hx hb dX12_feed_53 (by decide) ?_
  refine lv_icmp_ge (tgt := 62) hx hb dX12_feed_55 (by decide) (fun c82 => absurd c82 (by decide)) (fun _ => ?_)
  refine lv_iload_n hx hb dX12_feed_58 rfl (lv_at hl 5 rfl) ?_
  refine lv_goto (tgt := 76) hx hb dX12_feed_59 (by decide) ?_
  refine lv_istore (lv' := [(7, .int k3), (6, .int 8), (0, .ref a0), (1, .int k1), (2, .int k2), (3, .int k3), (4, .int k4), (5, .int k5)]) hx hb dX12_feed_76 hl (by decide) rfl (fun ls hl => ?_)
  refine lv_aload_n hx hb dX12_feed_78 rfl (lv_at hl 2 rfl) ?_
  refine va_get (D := (dC, dI)) (ci := 9) (v := .ref a6) (C := RX12) (T := TX12) (N := 30) hx hb hts iX12_feed_X12 hown hK hP 0 rfl rfl 5 (by decide) (hts (.fieldLink RX12 13 "HookPierModel" "tape" "[B") (List.mem_of_getElem? (i := 3) rfl)) (fun _ h9 => h9) rfl dX12_feed_79 ?_
  refine lv_aload_n hx hb dX12_feed_82 rfl (lv_at hl 2 rfl) ?_
  refine va_get (D := (dC, dI)) (ci := 9) (v := .int 8) (C := RX12) (T := TX12) (N := 30) hx hb hts iX12_feed_X12 hown hK hP 0 rfl rfl 6 (by decide) (hts (.fieldLink RX12 292 "HookPierModel" "taped" "I") (List.mem_of_getElem? (i := 2) rfl)) (fun _ h9 => h9) rfl dX12_feed_83 ?_
  refine lv_iload hx hb dX12_feed_86 (lv_at hl 0 rfl) ?_
  refine lv_bipush (v := 24) hx hb dX12_feed_88 (by decide) ?_
  refine lv_bipush (v := 8) hx hb dX12_feed_90 (by decide) ?_
  refine lv_iload hx hb dX12_feed_92 (lv_at hl 1 rfl) ?_
  refine lv_iconst (v := 4) hx hb dX12_feed_94 (by decide) ?_
  refine lv_irem hx hb dX12_feed_95 (by decide) ?_
  refine lv_topi (fun z83 ez83 => ?_)
  obtain rfl : z83 = 0 := ez83.trans (by decide)
  refine lv_imul hx hb dX12_feed_96 ?_
  refine lv_topi (fun z84 ez84 => ?_)
  obtain rfl : z84 = 0 := ez84.trans (by decide)
  refine lv_isub hx hb dX12_feed_97 ?_
  refine lv_topi (fun z85 ez85 => ?_)
  obtain rfl : z85 = 24 := ez85.trans (by decide)
  refine lv_ishr hx hb dX12_feed_98 ?_
  refine lv_topi (fun z86 _ => ?_)
  refine lv_i2b hx hb dX12_feed_99 rfl ?_
  refine lv_topi (fun z87 _ => ?_)
  refine va_bast hx hb hK hP hD hS 1 0 rfl rfl (by unfold vp_in; decide) dX12_feed_100 (fun H locs hP hD hS => ?_)
  have hP : va_P (dC, dI) vwCl [(a0, .inr (9, [.int 0, g8, g9, g10, g11, .ref a6, .int 8, g12, g13, g14, g15, g16, g17, g18, g19, g20, g21, g22, g23, g24, g25, g26, g27, g28, g29, g30, g31, g32, g33, g34])), (a6, .inl (cB35, 900, .inl (upd f77 (8 : Int32).toNatClampNeg (vp_nar .byte z87))))] H := hP
  have hD : va_D A [(a0, .inr (9, [.int 0, g8, g9, g10, g11, .ref a6, .int 8, g12, g13, g14, g15, g16, g17, g18, g19, g20, g21, g22, g23, g24, g25, g26, g27, g28, g29, g30, g31, g32, g33, g34])), (a6, .inl (cB35, 900, .inl (upd f77 (8 : Int32).toNatClampNeg (vp_nar .byte z87))))] := hD
  generalize upd f77 (8 : Int32).toNatClampNeg (vp_nar .byte z87) = f88 at hP hD
  refine lv_aload_n hx hb dX12_feed_101 rfl (lv_at hl 2 rfl) ?_
  refine lv_dup hx hb dX12_feed_102 rfl ?_
  refine va_get (D := (dC, dI)) (ci := 9) (v := .int 8) (C := RX12) (T := TX12) (N := 30) hx hb hts iX12_feed_X12 hown hK hP 0 rfl rfl 6 (by decide) (hts (.fieldLink RX12 292 "HookPierModel" "taped" "I") (List.mem_of_getElem? (i := 2) rfl)) (fun _ h9 => h9) rfl dX12_feed_103 ?_
  refine lv_iconst (v := 1) hx hb dX12_feed_106 (by decide) ?_
  refine lv_iadd hx hb dX12_feed_107 ?_
  refine lv_topi (fun z89 ez89 => ?_)
  obtain rfl : z89 = 9 := ez89.trans (by decide)
  refine va_put (D := (dC, dI)) (ci := 9) (v := .int 9) (ty := .int) (C := RX12) (T := TX12) (N := 30) hx hb hts iX12_feed_X12 tyX12 tyX12_ok nmX12 hown hK hP hD hS 0 rfl rfl 6 (by decide) (hts (.fieldLink RX12 292 "HookPierModel" "taped" "I") (List.mem_of_getElem? (i := 2) rfl)) (fun _ h9 => h9) rfl (by decide +kernel) rfl rfl (Nat.le_of_ble_eq_true rfl) dX12_feed_108 (fun H locs hP hD hS => ?_)
  have hP : va_P (dC, dI) vwCl [(a0, .inr (9, [.int 0, g8, g9, g10, g11, .ref a6, .int 9, g12, g13, g14, g15, g16, g17, g18, g19, g20, g21, g22, g23, g24, g25, g26, g27, g28, g29, g30, g31, g32, g33, g34])), (a6, .inl (cB35, 900, .inl f88))] H := hP
  have hD : va_D A [(a0, .inr (9, [.int 0, g8, g9, g10, g11, .ref a6, .int 9, g12, g13, g14, g15, g16, g17, g18, g19, g20, g21, g22, g23, g24, g25, g26, g27, g28, g29, g30, g31, g32, g33, g34])), (a6, .inl (cB35, 900, .inl f88))] := hD
  refine lv_iinc (v := 9) (lv' := [(6, .int 9), (7, .int k3), (0, .ref a0), (1, .int k1), (2, .int k2), (3, .int k3), (4, .int k4), (5, .int k5)]) hx hb dX12_feed_111 hl (k := 1) rfl (by decide) (by decide) rfl (fun ls hl => ?_)
  refine lv_goto (tgt := 23) hx hb dX12_feed_114 (by decide) ?_
  refine lv_iload hx hb dX12_feed_23 (lv_at hl 0 rfl) ?_
  refine lv_bipush (v := 20) hx hb dX12_feed_25 (by decide) ?_
  refine lv_icmp_ge (tgt := 117) hx hb dX12_feed_27 (by decide) (fun c90 => absurd c90 (by decide)) (fun _ => ?_)
  refine lv_iload hx hb dX12_feed_30 (lv_at hl 0 rfl) ?_
  refine lv_iconst (v := 4) hx hb dX12_feed_32 (by decide) ?_
  refine lv_icmp_ge (tgt := 40) hx hb dX12_feed_33 (by decide) (fun _ => ?_) (fun c91 => absurd c91 (by decide))
  refine lv_iload hx hb dX12_feed_40 (lv_at hl 0 rfl) ?_
  refine lv_bipush (v := 8) hx hb dX12_feed_42 (by decide) ?_
  refine lv_icmp_ge (tgt := 51) hx hb dX12_feed_44 (by decide) (fun _ => ?_) (fun c92 => absurd c92 (by decide))
  refine lv_iload hx hb dX12_feed_51 (lv_at hl 0 rfl) ?_
  refine lv_bipush (v := 12) hx hb dX12_feed_53 (by decide) ?_
  refine lv_icmp_ge (tgt := 62) hx hb dX12_feed_55 (by decide) (fun c93 => absurd c93 (by decide)) (fun _ => ?_)
  refine lv_iload_n hx hb dX12_feed_58 rfl (lv_at hl 5 rfl) ?_
  refine lv_goto (tgt := 76) hx hb dX12_feed_59 (by decide) ?_
  refine lv_istore (lv' := [(7, .int k3), (6, .int 9), (0, .ref a0), (1, .int k1), (2, .int k2), (3, .int k3), (4, .int k4), (5, .int k5)]) hx hb dX12_feed_76 hl (by decide) rfl (fun ls hl => ?_)
  refine lv_aload_n hx hb dX12_feed_78 rfl (lv_at hl 2 rfl) ?_
  refine va_get (D := (dC, dI)) (ci := 9) (v := .ref a6) (C := RX12) (T := TX12) (N := 30) hx hb hts iX12_feed_X12 hown hK hP 0 rfl rfl 5 (by decide) (hts (.fieldLink RX12 13 "HookPierModel" "tape" "[B") (List.mem_of_getElem? (i := 3) rfl)) (fun _ h9 => h9) rfl dX12_feed_79 ?_
  refine lv_aload_n hx hb dX12_feed_82 rfl (lv_at hl 2 rfl) ?_
  refine va_get (D := (dC, dI)) (ci := 9) (v := .int 9) (C := RX12) (T := TX12) (N := 30) hx hb hts iX12_feed_X12 hown hK hP 0 rfl rfl 6 (by decide) (hts (.fieldLink RX12 292 "HookPierModel" "taped" "I") (List.mem_of_getElem? (i := 2) rfl)) (fun _ h9 => h9) rfl dX12_feed_83 ?_
  refine lv_iload hx hb dX12_feed_86 (lv_at hl 0 rfl) ?_
  refine lv_bipush (v := 24) hx hb dX12_feed_88 (by decide) ?_
  refine lv_bipush (v := 8) hx hb dX12_feed_90 (by decide) ?_
  refine lv_iload hx hb dX12_feed_92 (lv_at hl 1 rfl) ?_
  refine lv_iconst (v := 4) hx hb dX12_feed_94 (by decide) ?_
  refine lv_irem hx hb dX12_feed_95 (by decide) ?_
  refine lv_topi (fun z94 ez94 => ?_)
  obtain rfl : z94 = 1 := ez94.trans (by decide)
  refine lv_imul hx hb dX12_feed_96 ?_
  refine lv_topi (fun z95 ez95 => ?_)
  obtain rfl : z95 = 8 := ez95.trans (by decide)
  refine lv_isub hx hb dX12_feed_97 ?_
  refine lv_topi (fun z96 ez96 => ?_)
  obtain rfl : z96 = 16 := ez96.trans (by decide)
  refine lv_ishr hx hb dX12_feed_98 ?_
  refine lv_topi (fun z97 _ => ?_)
  refine lv_i2b hx hb dX12_feed_99 rfl ?_
  refine lv_topi (fun z98 _ => ?_)
  refine va_bast hx hb hK hP hD hS 1 0 rfl rfl (by unfold vp_in; decide) dX12_feed_100 (fun H locs hP hD hS => ?_)
  have hP : va_P (dC, dI) vwCl [(a0, .inr (9, [.int 0, g8, g9, g10, g11, .ref a6, .int 9, g12, g13, g14, g15, g16, g17, g18, g19, g20, g21, g22, g23, g24, g25, g26, g27, g28, g29, g30, g31, g32, g33, g34])), (a6, .inl (cB35, 900, .inl (upd f88 (9 : Int32).toNatClampNeg (vp_nar .byte z98))))] H := hP
  have hD : va_D A [(a0, .inr (9, [.int 0, g8, g9, g10, g11, .ref a6, .int 9, g12, g13, g14, g15, g16, g17, g18, g19, g20, g21, g22, g23, g24, g25, g26, g27, g28, g29, g30, g31, g32, g33, g34])), (a6, .inl (cB35, 900, .inl (upd f88 (9 : Int32).toNatClampNeg (vp_nar .byte z98))))] := hD
  generalize upd f88 (9 : Int32).toNatClampNeg (vp_nar .byte z98) = f99 at hP hD
  refine lv_aload_n hx hb dX12_feed_101 rfl (lv_at hl 2 rfl) ?_
  refine lv_dup hx hb dX12_feed_102 rfl ?_
  refine va_get (D := (dC, dI)) (ci := 9) (v := .int 9) (C := RX12) (T := TX12) (N := 30) hx hb hts iX12_feed_X12 hown hK hP 0 rfl rfl 6 (by decide) (hts (.fieldLink RX12 292 "HookPierModel" "taped" "I") (List.mem_of_getElem? (i := 2) rfl)) (fun _ h9 => h9) rfl dX12_feed_103 ?_
  refine lv_iconst (v := 1) hx hb dX12_feed_106 (by decide) ?_
  refine lv_iadd hx hb dX12_feed_107 ?_
  refine lv_topi (fun z100 ez100 => ?_)
  obtain rfl : z100 = 10 := ez100.trans (by decide)
  refine va_put (D := (dC, dI)) (ci := 9) (v := .int 10) (ty := .int) (C := RX12) (T := TX12) (N := 30) hx hb hts iX12_feed_X12 tyX12 tyX12_ok nmX12 hown hK hP hD hS 0 rfl rfl 6 (by decide) (hts (.fieldLink RX12 292 "HookPierModel" "taped" "I") (List.mem_of_getElem? (i := 2) rfl)) (fun _ h9 => h9) rfl (by decide +kernel) rfl rfl (Nat.le_of_ble_eq_true rfl) dX12_feed_108 (fun H locs hP hD hS => ?_)
  have hP : va_P (dC, dI) vwCl [(a0, .inr (9, [.int 0, g8, g9, g10, g11, .ref a6, .int 10, g12, g13, g14, g15, g16, g17, g18, g19, g20, g21, g22, g23, g24, g25, g26, g27, g28, g29, g30, g31, g32, g33, g34])), (a6, .inl (cB35, 900, .inl f99))] H := hP
  have hD : va_D A [(a0, .inr (9, [.int 0, g8, g9, g10, g11, .ref a6, .int 10, g12, g13, g14, g15, g16, g17, g18, g19, g20, g21, g22, g23, g24, g25, g26, g27, g28, g29, g30, g31, g32, g33, g34])), (a6, .inl (cB35, 900, .inl f99))] := hD
  refine lv_iinc (v := 10) (lv' := [(6, .int 10), (7, .int k3), (0, .ref a0), (1, .int k1), (2, .int k2), (3, .int k3), (4, .int k4), (5, .int k5)]) hx hb dX12_feed_111 hl (k := 1) rfl (by decide) (by decide) rfl (fun ls hl => ?_)
  refine lv_goto (tgt := 23) hx hb dX12_feed_114 (by decide) ?_
  refine lv_iload hx hb dX12_feed_23 (lv_at hl 0 rfl) ?_
  refine lv_bipush (v := 20) hx hb dX12_feed_25 (by decide) ?_
  refine lv_icmp_ge (tgt := 117) hx hb dX12_feed_27 (by decide) (fun c101 => absurd c101 (by decide)) (fun _ => ?_)
  refine lv_iload hx hb dX12_feed_30 (lv_at hl 0 rfl) ?_
  refine lv_iconst (v := 4) hx hb dX12_feed_32 (by decide) ?_
  refine lv_icmp_ge (tgt := 40) hx hb dX12_feed_33 (by decide) (fun _ => ?_) (fun c102 => absurd c102 (by decide))
  refine lv_iload hx hb dX12_feed_40 (lv_at hl 0 rfl) ?_
  refine lv_bipush (v := 8) hx hb dX12_feed_42 (by decide) ?_
  refine lv_icmp_ge (tgt := 51) hx hb dX12_feed_44 (by decide) (fun _ => ?_) (fun c103 => absurd c103 (by decide))
  refine lv_iload hx hb dX12_feed_51 (lv_at hl 0 rfl) ?_
  refine lv_bipush (v := 12) hx hb dX12_feed_53 (by decide) ?_
  refine lv_icmp_ge (tgt := 62) hx hb dX12_feed_55 (by decide) (fun c104 => absurd c104 (by decide)) (fun _ => ?_)
  refine lv_iload_n hx hb dX12_feed_58 rfl (lv_at hl 5 rfl) ?_
  refine lv_goto (tgt := 76) hx hb dX12_feed_59 (by decide) ?_
  refine lv_istore (lv' := [(7, .int k3), (6, .int 10), (0, .ref a0), (1, .int k1), (2, .int k2), (3, .int k3), (4, .int k4), (5, .int k5)]) hx hb dX12_feed_76 hl (by decide) rfl (fun ls hl => ?_)
  refine lv_aload_n hx hb dX12_feed_78 rfl (lv_at hl 2 rfl) ?_
  refine va_get (D := (dC, dI)) (ci := 9) (v := .ref a6) (C := RX12) (T := TX12) (N := 30) hx hb hts iX12_feed_X12 hown hK hP 0 rfl rfl 5 (by decide) (hts (.fieldLink RX12 13 "HookPierModel" "tape" "[B") (List.mem_of_getElem? (i := 3) rfl)) (fun _ h9 => h9) rfl dX12_feed_79 ?_
  refine lv_aload_n hx hb dX12_feed_82 rfl (lv_at hl 2 rfl) ?_
  refine va_get (D := (dC, dI)) (ci := 9) (v := .int 10) (C := RX12) (T := TX12) (N := 30) hx hb hts iX12_feed_X12 hown hK hP 0 rfl rfl 6 (by decide) (hts (.fieldLink RX12 292 "HookPierModel" "taped" "I") (List.mem_of_getElem? (i := 2) rfl)) (fun _ h9 => h9) rfl dX12_feed_83 ?_
  refine lv_iload hx hb dX12_feed_86 (lv_at hl 0 rfl) ?_
  refine lv_bipush (v := 24) hx hb dX12_feed_88 (by decide) ?_
  refine lv_bipush (v := 8) hx hb dX12_feed_90 (by decide) ?_
  refine lv_iload hx hb dX12_feed_92 (lv_at hl 1 rfl) ?_
  refine lv_iconst (v := 4) hx hb dX12_feed_94 (by decide) ?_
  refine lv_irem hx hb dX12_feed_95 (by decide) ?_
  refine lv_topi (fun z105 ez105 => ?_)
  obtain rfl : z105 = 2 := ez105.trans (by decide)
  refine lv_imul hx hb dX12_feed_96 ?_
  refine lv_topi (fun z106 ez106 => ?_)
  obtain rfl : z106 = 16 := ez106.trans (by decide)
  refine lv_isub hx hb dX12_feed_97 ?_
  refine lv_topi (fun z107 ez107 => ?_)
  obtain rfl : z107 = 8 := ez107.trans (by decide)
  refine lv_ishr hx hb dX12_feed_98 ?_
  refine lv_topi (fun z108 _ => ?_)
  refine lv_i2b hx hb dX12_feed_99 rfl ?_
  refine lv_topi (fun z109 _ => ?_)
  refine va_bast hx hb hK hP hD hS 1 0 rfl rfl (by unfold vp_in; decide) dX12_feed_100 (fun H locs hP hD hS => ?_)
  have hP : va_P (dC, dI) vwCl [(a0, .inr (9, [.int 0, g8, g9, g10, g11, .ref a6, .int 10, g12, g13, g14, g15, g16, g17, g18, g19, g20, g21, g22, g23, g24, g25, g26, g27, g28, g29, g30, g31, g32, g33, g34])), (a6, .inl (cB35, 900, .inl (upd f99 (10 : Int32).toNatClampNeg (vp_nar .byte z109))))] H := hP
  have hD : va_D A [(a0, .inr (9, [.int 0, g8, g9, g10, g11, .ref a6, .int 10, g12, g13, g14, g15, g16, g17, g18, g19, g20, g21, g22, g23, g24, g25, g26, g27, g28, g29, g30, g31, g32, g33, g34])), (a6, .inl (cB35, 900, .inl (upd f99 (10 : Int32).toNatClampNeg (vp_nar .byte z109))))] := hD
  generalize upd f99 (10 : Int32).toNatClampNeg (vp_nar .byte z109) = f110 at hP hD
  refine lv_aload_n hx hb dX12_feed_101 rfl (lv_at hl 2 rfl) ?_
  refine lv_dup hx hb dX12_feed_102 rfl ?_
  refine va_get (D := (dC, dI)) (ci := 9) (v := .int 10) (C := RX12) (T := TX12) (N := 30) hx hb hts iX12_feed_X12 hown hK hP 0 rfl rfl 6 (by decide) (hts (.fieldLink RX12 292 "HookPierModel" "taped" "I") (List.mem_of_getElem? (i := 2) rfl)) (fun _ h9 => h9) rfl dX12_feed_103 ?_
  refine lv_iconst (v := 1) hx hb dX12_feed_106 (by decide) ?_
  refine lv_iadd hx hb dX12_feed_107 ?_
  refine lv_topi (fun z111 ez111 => ?_)
  obtain rfl : z111 = 11 := ez111.trans (by decide)
  refine va_put (D := (dC, dI)) (ci := 9) (v := .int 11) (ty := .int) (C := RX12) (T := TX12) (N := 30) hx hb hts iX12_feed_X12 tyX12 tyX12_ok nmX12 hown hK hP hD hS 0 rfl rfl 6 (by decide) (hts (.fieldLink RX12 292 "HookPierModel" "taped" "I") (List.mem_of_getElem? (i := 2) rfl)) (fun _ h9 => h9) rfl (by decide +kernel) rfl rfl (Nat.le_of_ble_eq_true rfl) dX12_feed_108 (fun H locs hP hD hS => ?_)
  have hP : va_P (dC, dI) vwCl [(a0, .inr (9, [.int 0, g8, g9, g10, g11, .ref a6, .int 11, g12, g13, g14, g15, g16, g17, g18, g19, g20, g21, g22, g23, g24, g25, g26, g27, g28, g29, g30, g31, g32, g33, g34])), (a6, .inl (cB35, 900, .inl f110))] H := hP
  have hD : va_D A [(a0, .inr (9, [.int 0, g8, g9, g10, g11, .ref a6, .int 11, g12, g13, g14, g15, g16, g17, g18, g19, g20, g21, g22, g23, g24, g25, g26, g27, g28, g29, g30, g31, g32, g33, g34])), (a6, .inl (cB35, 900, .inl f110))] := hD
  refine lv_iinc (v := 11) (lv' := [(6, .int 11), (7, .int k3), (0, .ref a0), (1, .int k1), (2, .int k2), (3, .int k3), (4, .int k4), (5, .int k5)]) hx hb dX12_feed_111 hl (k := 1) rfl (by decide) (by decide) rfl (fun ls hl => ?_)
  refine lv_goto (tgt := 23) hx hb dX12_feed_114 (by decide) ?_
  refine lv_iload hx hb dX12_feed_23 (lv_at hl 0 rfl) ?_
  refine lv_bipush (v := 20) hx hb dX12_feed_25 (by decide) ?_
  refine lv_icmp_ge (tgt := 117) hx hb dX12_feed_27 (by decide) (fun c112 => absurd c112 (by decide)) (fun _ => ?_)
  refine lv_iload hx hb dX12_feed_30 (lv_at hl 0 rfl) ?_
  refine lv_iconst (v := 4) hx hb dX12_feed_32 (by decide) ?_
  refine lv_icmp_ge (tgt := 40) hx hb dX12_feed_33 (by decide) (fun _ => ?_) (fun c113 => absurd c113 (by decide))
  refine lv_iload hx hb dX12_feed_40 (lv_at hl 0 rfl) ?_
  refine lv_bipush (v := 8) hx hb dX12_feed_42 (by decide) ?_
  refine lv_icmp_ge (tgt := 51) hx hb dX12_feed_44 (by decide) (fun _ => ?_) (fun c114 => absurd c114 (by decide))
  refine lv_iload hx hb dX12_feed_51 (lv_at hl 0 rfl) ?_
  refine lv_bipush (v := 12) hx hb dX12_feed_53 (by decide) ?_
  refine lv_icmp_ge (tgt := 62) hx hb dX12_feed_55 (by decide) (fun c115 => absurd c115 (by decide)) (fun _ => ?_)
  refine lv_iload_n hx hb dX12_feed_58 rfl (lv_at hl 5 rfl) ?_
  refine lv_goto (tgt := 76) hx hb dX12_feed_59 (by decide) ?_
  refine lv_istore (lv' := [(7, .int k3), (6, .int 11), (0, .ref a0), (1, .int k1), (2, .int k2), (3, .int k3), (4, .int k4), (5, .int k5)]) hx hb dX12_feed_76 hl (by decide) rfl (fun ls hl => ?_)
  refine lv_aload_n hx hb dX12_feed_78 rfl (lv_at hl 2 rfl) ?_
  refine va_get (D := (dC, dI)) (ci := 9) (v := .ref a6) (C := RX12) (T := TX12) (N := 30) hx hb hts iX12_feed_X12 hown hK hP 0 rfl rfl 5 (by decide) (hts (.fieldLink RX12 13 "HookPierModel" "tape" "[B") (List.mem_of_getElem? (i := 3) rfl)) (fun _ h9 => h9) rfl dX12_feed_79 ?_
  refine lv_aload_n hx hb dX12_feed_82 rfl (lv_at hl 2 rfl) ?_
  refine va_get (D := (dC, dI)) (ci := 9) (v := .int 11) (C := RX12) (T := TX12) (N := 30) hx hb hts iX12_feed_X12 hown hK hP 0 rfl rfl 6 (by decide) (hts (.fieldLink RX12 292 "HookPierModel" "taped" "I") (List.mem_of_getElem? (i := 2) rfl)) (fun _ h9 => h9) rfl dX12_feed_83 ?_
  refine lv_iload hx hb dX12_feed_86 (lv_at hl 0 rfl) ?_
  refine lv_bipush (v := 24) hx hb dX12_feed_88 (by decide) ?_
  refine lv_bipush (v := 8) hx hb dX12_feed_90 (by decide) ?_
  refine lv_iload hx hb dX12_feed_92 (lv_at hl 1 rfl) ?_
  refine lv_iconst (v := 4) hx hb dX12_feed_94 (by decide) ?_
  refine lv_irem hx hb dX12_feed_95 (by decide) ?_
  refine lv_topi (fun z116 ez116 => ?_)
  obtain rfl : z116 = 3 := ez116.trans (by decide)
  refine lv_imul hx hb dX12_feed_96 ?_
  refine lv_topi (fun z117 ez117 => ?_)
  obtain rfl : z117 = 24 := ez117.trans (by decide)
  refine lv_isub hx hb dX12_feed_97 ?_
  refine lv_topi (fun z118 ez118 => ?_)
  obtain rfl : z118 = 0 := ez118.trans (by decide)
  refine lv_ishr hx hb dX12_feed_98 ?_
  refine lv_topi (fun z119 _ => ?_)
  refine lv_i2b hx hb dX12_feed_99 rfl ?_
  refine lv_topi (fun z120 _ => ?_)
  refine va_bast hx hb hK hP hD hS 1 0 rfl rfl (by unfold vp_in; decide) dX12_feed_100 (fun H locs hP hD hS => ?_)
  have hP : va_P (dC, dI) vwCl [(a0, .inr (9, [.int 0, g8, g9, g10, g11, .ref a6, .int 11, g12, g13, g14, g15, g16, g17, g18, g19, g20, g21, g22, g23, g24, g25, g26, g27, g28, g29, g30, g31, g32, g33, g34])), (a6, .inl (cB35, 900, .inl (upd f110 (11 : Int32).toNatClampNeg (vp_nar .byte z120))))] H := hP
  have hD : va_D A [(a0, .inr (9, [.int 0, g8, g9, g10, g11, .ref a6, .int 11, g12, g13, g14, g15, g16, g17, g18, g19, g20, g21, g22, g23, g24, g25, g26, g27, g28, g29, g30, g31, g32, g33, g34])), (a6, .inl (cB35, 900, .inl (upd f110 (11 : Int32).toNatClampNeg (vp_nar .byte z120))))] := hD
  generalize upd f110 (11 : Int32).toNatClampNeg (vp_nar .byte z120) = f121 at hP hD
  refine lv_aload_n hx hb dX12_feed_101 rfl (lv_at hl 2 rfl) ?_
  refine lv_dup hx hb dX12_feed_102 rfl ?_
  refine va_get (D := (dC, dI)) (ci := 9) (v := .int 11) (C := RX12) (T := TX12) (N := 30) hx hb hts iX12_feed_X12 hown hK hP 0 rfl rfl 6 (by decide) (hts (.fieldLink RX12 292 "HookPierModel" "taped" "I") (List.mem_of_getElem? (i := 2) rfl)) (fun _ h9 => h9) rfl dX12_feed_103 ?_
  refine lv_iconst (v := 1) hx hb dX12_feed_106 (by decide) ?_
  refine lv_iadd hx hb dX12_feed_107 ?_
  refine lv_topi (fun z122 ez122 => ?_)
  obtain rfl : z122 = 12 := ez122.trans (by decide)
  refine va_put (D := (dC, dI)) (ci := 9) (v := .int 12) (ty := .int) (C := RX12) (T := TX12) (N := 30) hx hb hts iX12_feed_X12 tyX12 tyX12_ok nmX12 hown hK hP hD hS 0 rfl rfl 6 (by decide) (hts (.fieldLink RX12 292 "HookPierModel" "taped" "I") (List.mem_of_getElem? (i := 2) rfl)) (fun _ h9 => h9) rfl (by decide +kernel) rfl rfl (Nat.le_of_ble_eq_true rfl) dX12_feed_108 (fun H locs hP hD hS => ?_)
  have hP : va_P (dC, dI) vwCl [(a0, .inr (9, [.int 0, g8, g9, g10, g11, .ref a6, .int 12, g12, g13, g14, g15, g16, g17, g18, g19, g20, g21, g22, g23, g24, g25, g26, g27, g28, g29, g30, g31, g32, g33, g34])), (a6, .inl (cB35, 900, .inl f121))] H := hP
  have hD : va_D A [(a0, .inr (9, [.int 0, g8, g9, g10, g11, .ref a6, .int 12, g12, g13, g14, g15, g16, g17, g18, g19, g20, g21, g22, g23, g24, g25, g26, g27, g28, g29, g30, g31, g32, g33, g34])), (a6, .inl (cB35, 900, .inl f121))] := hD
  refine lv_iinc (v := 12) (lv' := [(6, .int 12), (7, .int k3), (0, .ref a0), (1, .int k1), (2, .int k2), (3, .int k3), (4, .int k4), (5, .int k5)]) hx hb dX12_feed_111 hl (k := 1) rfl (by decide) (by decide) rfl (fun ls hl => ?_)
  refine lv_goto (tgt := 23) hx hb dX12_feed_114 (by decide) ?_
  refine lv_iload hx hb dX12_feed_23 (lv_at hl 0 rfl) ?_
  refine lv_bipush (v := 20) hx hb dX12_feed_25 (by decide) ?_
  refine lv_icmp_ge (tgt := 117) hx hb dX12_feed_27 (by decide) (fun c123 => absurd c123 (by decide)) (fun _ => ?_)
  refine lv_iload hx hb dX12_feed_30 (lv_at hl 0 rfl) ?_
  refine lv_iconst (v := 4) hx hb dX12_feed_32 (by decide) ?_
  refine lv_icmp_ge (tgt := 40) hx hb dX12_feed_33 (by decide) (fun _ => ?_) (fun c124 => absurd c124 (by decide))
  refine lv_iload hx hb dX12_feed_40 (lv_at hl 0 rfl) ?_
  refine lv_bipush (v := 8) hx hb dX12_feed_42 (by decide) ?_
  refine lv_icmp_ge (tgt := 51) hx hb dX12_feed_44 (by decide) (fun _ => ?_) (fun c125 => absurd c125 (by decide))
  refine lv_iload hx hb dX12_feed_51 (lv_at hl 0 rfl) ?_
  refine lv_bipush (v := 12) hx hb dX12_feed_53 (by decide) ?_
  refine lv_icmp_ge (tgt := 62) hx hb dX12_feed_55 (by decide) (fun _ => ?_) (fun c126 => absurd c126 (by decide))
  refine lv_iload hx hb dX12_feed_62 (lv_at hl 0 rfl) ?_
  refine lv_bipush (v := 16) hx hb dX12_feed_64 (by decide) ?_
  refine lv_icmp_ge (tgt := 74) hx hb dX12_feed_66 (by decide) (fun c127 => absurd c127 (by decide)) (fun _ => ?_)
  refine lv_iload hx hb dX12_feed_69 (lv_at hl 6 rfl) ?_
  refine lv_goto (tgt := 76) hx hb dX12_feed_71 (by decide) ?_
  refine lv_istore (lv' := [(7, .int k4), (6, .int 12), (0, .ref a0), (1, .int k1), (2, .int k2), (3, .int k3), (4, .int k4), (5, .int k5)]) hx hb dX12_feed_76 hl (by decide) rfl (fun ls hl => ?_)
  refine lv_aload_n hx hb dX12_feed_78 rfl (lv_at hl 2 rfl) ?_
  refine va_get (D := (dC, dI)) (ci := 9) (v := .ref a6) (C := RX12) (T := TX12) (N := 30) hx hb hts iX12_feed_X12 hown hK hP 0 rfl rfl 5 (by decide) (hts (.fieldLink RX12 13 "HookPierModel" "tape" "[B") (List.mem_of_getElem? (i := 3) rfl)) (fun _ h9 => h9) rfl dX12_feed_79 ?_
  refine lv_aload_n hx hb dX12_feed_82 rfl (lv_at hl 2 rfl) ?_
  refine va_get (D := (dC, dI)) (ci := 9) (v := .int 12) (C := RX12) (T := TX12) (N := 30) hx hb hts iX12_feed_X12 hown hK hP 0 rfl rfl 6 (by decide) (hts (.fieldLink RX12 292 "HookPierModel" "taped" "I") (List.mem_of_getElem? (i := 2) rfl)) (fun _ h9 => h9) rfl dX12_feed_83 ?_
  refine lv_iload hx hb dX12_feed_86 (lv_at hl 0 rfl) ?_
  refine lv_bipush (v := 24) hx hb dX12_feed_88 (by decide) ?_
  refine lv_bipush (v := 8) hx hb dX12_feed_90 (by decide) ?_
  refine lv_iload hx hb dX12_feed_92 (lv_at hl 1 rfl) ?_
  refine lv_iconst (v := 4) hx hb dX12_feed_94 (by decide) ?_
  refine lv_irem hx hb dX12_feed_95 (by decide) ?_
  refine lv_topi (fun z128 ez128 => ?_)
  obtain rfl : z128 = 0 := ez128.trans (by decide)
  refine lv_imul hx hb dX12_feed_96 ?_
  refine lv_topi (fun z129 ez129 => ?_)
  obtain rfl : z129 = 0 := ez129.trans (by decide)
  refine lv_isub hx hb dX12_feed_97 ?_
  refine lv_topi (fun z130 ez130 => ?_)
  obtain rfl : z130 = 24 := ez130.trans (by decide)
  refine lv_ishr hx hb dX12_feed_98 ?_
  refine lv_topi (fun z131 _ => ?_)
  refine lv_i2b hx hb dX12_feed_99 rfl ?_
  refine lv_topi (fun z132 _ => ?_)
  refine va_bast hx hb hK hP hD hS 1 0 rfl rfl (by unfold vp_in; decide) dX12_feed_100 (fun H locs hP hD hS => ?_)
  have hP : va_P (dC, dI) vwCl [(a0, .inr (9, [.int 0, g8, g9, g10, g11, .ref a6, .int 12, g12, g13, g14, g15, g16, g17, g18, g19, g20, g21, g22, g23, g24, g25, g26, g27, g28, g29, g30, g31, g32, g33, g34])), (a6, .inl (cB35, 900, .inl (upd f121 (12 : Int32).toNatClampNeg (vp_nar .byte z132))))] H := hP
  have hD : va_D A [(a0, .inr (9, [.int 0, g8, g9, g10, g11, .ref a6, .int 12, g12, g13, g14, g15, g16, g17, g18, g19, g20, g21, g22, g23, g24, g25, g26, g27, g28, g29, g30, g31, g32, g33, g34])), (a6, .inl (cB35, 900, .inl (upd f121 (12 : Int32).toNatClampNeg (vp_nar .byte z132))))] := hD
  generalize upd f121 (12 : Int32).toNatClampNeg (vp_nar .byte z132) = f133 at hP hD
  refine lv_aload_n hx hb dX12_feed_101 rfl (lv_at hl 2 rfl) ?_
  refine lv_dup hx hb dX12_feed_102 rfl ?_
  refine va_get (D := (dC, dI)) (ci := 9) (v := .int 12) (C := RX12) (T := TX12) (N := 30) hx hb hts iX12_feed_X12 hown hK hP 0 rfl rfl 6 (by decide) (hts (.fieldLink RX12 292 "HookPierModel" "taped" "I") (List.mem_of_getElem? (i := 2) rfl)) (fun _ h9 => h9) rfl dX12_feed_103 ?_
  refine lv_iconst (v := 1) hx hb dX12_feed_106 (by decide) ?_
  refine lv_iadd hx hb dX12_feed_107 ?_
  refine lv_topi (fun z134 ez134 => ?_)
  obtain rfl : z134 = 13 := ez134.trans (by decide)
  refine va_put (D := (dC, dI)) (ci := 9) (v := .int 13) (ty := .int) (C := RX12) (T := TX12) (N := 30) hx hb hts iX12_feed_X12 tyX12 tyX12_ok nmX12 hown hK hP hD hS 0 rfl rfl 6 (by decide) (hts (.fieldLink RX12 292 "HookPierModel" "taped" "I") (List.mem_of_getElem? (i := 2) rfl)) (fun _ h9 => h9) rfl (by decide +kernel) rfl rfl (Nat.le_of_ble_eq_true rfl) dX12_feed_108 (fun H locs hP hD hS => ?_)
  have hP : va_P (dC, dI) vwCl [(a0, .inr (9, [.int 0, g8, g9, g10, g11, .ref a6, .int 13, g12, g13, g14, g15, g16, g17, g18, g19, g20, g21, g22, g23, g24, g25, g26, g27, g28, g29, g30, g31, g32, g33, g34])), (a6, .inl (cB35, 900, .inl f133))] H := hP
  have hD : va_D A [(a0, .inr (9, [.int 0, g8, g9, g10, g11, .ref a6, .int 13, g12, g13, g14, g15, g16, g17, g18, g19, g20, g21, g22, g23, g24, g25, g26, g27, g28, g29, g30, g31, g32, g33, g34])), (a6, .inl (cB35, 900, .inl f133))] := hD
  refine lv_iinc (v := 13) (lv' := [(6, .int 13), (7, .int k4), (0, .ref a0), (1, .int k1), (2, .int k2), (3, .int k3), (4, .int k4), (5, .int k5)]) hx hb dX12_feed_111 hl (k := 1) rfl (by decide) (by decide) rfl (fun ls hl => ?_)
  refine lv_goto (tgt := 23) hx hb dX12_feed_114 (by decide) ?_
  refine lv_iload hx hb dX12_feed_23 (lv_at hl 0 rfl) ?_
  refine lv_bipush (v := 20) hx hb dX12_feed_25 (by decide) ?_
  refine lv_icmp_ge (tgt := 117) hx hb dX12_feed_27 (by decide) (fun c135 => absurd c135 (by decide)) (fun _ => ?_)
  refine lv_iload hx hb dX12_feed_30 (lv_at hl 0 rfl) ?_
  refine lv_iconst (v := 4) hx hb dX12_feed_32 (by decide) ?_
  refine lv_icmp_ge (tgt := 40) hx hb dX12_feed_33 (by decide) (fun _ => ?_) (fun c136 => absurd c136 (by decide))
  refine lv_iload hx hb dX12_feed_40 (lv_at hl 0 rfl) ?_
  refine lv_bipush (v := 8) hx hb dX12_feed_42 (by decide) ?_
  refine lv_icmp_ge (tgt := 51) hx hb dX12_feed_44 (by decide) (fun _ => ?_) (fun c137 => absurd c137 (by decide))
  refine lv_iload hx hb dX12_feed_51 (lv_at hl 0 rfl) ?_
  refine lv_bipush (v := 12) hx hb dX12_feed_53 (by decide) ?_
  refine lv_icmp_ge (tgt := 62) hx hb dX12_feed_55 (by decide) (fun _ => ?_) (fun c138 => absurd c138 (by decide))
  refine lv_iload hx hb dX12_feed_62 (lv_at hl 0 rfl) ?_
  refine lv_bipush (v := 16) hx hb dX12_feed_64 (by decide) ?_
  refine lv_icmp_ge (tgt := 74) hx hb dX12_feed_66 (by decide) (fun c139 => absurd c139 (by decide)) (fun _ => ?_)
  refine lv_iload hx hb dX12_feed_69 (lv_at hl 6 rfl) ?_
  refine lv_goto (tgt := 76) hx hb dX12_feed_71 (by decide) ?_
  refine lv_istore (lv' := [(7, .int k4), (6, .int 13), (0, .ref a0), (1, .int k1), (2, .int k2), (3, .int k3), (4, .int k4), (5, .int k5)]) hx hb dX12_feed_76 hl (by decide) rfl (fun ls hl => ?_)
  refine lv_aload_n hx hb dX12_feed_78 rfl (lv_at hl 2 rfl) ?_
  refine va_get (D := (dC, dI)) (ci := 9) (v := .ref a6) (C := RX12) (T := TX12) (N := 30) hx hb hts iX12_feed_X12 hown hK hP 0 rfl rfl 5 (by decide) (hts (.fieldLink RX12 13 "HookPierModel" "tape" "[B") (List.mem_of_getElem? (i := 3) rfl)) (fun _ h9 => h9) rfl dX12_feed_79 ?_
  refine lv_aload_n hx hb dX12_feed_82 rfl (lv_at hl 2 rfl) ?_
  refine va_get (D := (dC, dI)) (ci := 9) (v := .int 13) (C := RX12) (T := TX12) (N := 30) hx hb hts iX12_feed_X12 hown hK hP 0 rfl rfl 6 (by decide) (hts (.fieldLink RX12 292 "HookPierModel" "taped" "I") (List.mem_of_getElem? (i := 2) rfl)) (fun _ h9 => h9) rfl dX12_feed_83 ?_
  refine lv_iload hx hb dX12_feed_86 (lv_at hl 0 rfl) ?_
  refine lv_bipush (v := 24) hx hb dX12_feed_88 (by decide) ?_
  refine lv_bipush (v := 8) hx hb dX12_feed_90 (by decide) ?_
  refine lv_iload hx hb dX12_feed_92 (lv_at hl 1 rfl) ?_
  refine lv_iconst (v := 4) hx hb dX12_feed_94 (by decide) ?_
  refine lv_irem hx hb dX12_feed_95 (by decide) ?_
  refine lv_topi (fun z140 ez140 => ?_)
  obtain rfl : z140 = 1 := ez140.trans (by decide)
  refine lv_imul hx hb dX12_feed_96 ?_
  refine lv_topi (fun z141 ez141 => ?_)
  obtain rfl : z141 = 8 := ez141.trans (by decide)
  refine lv_isub hx hb dX12_feed_97 ?_
  refine lv_topi (fun z142 ez142 => ?_)
  obtain rfl : z142 = 16 := ez142.trans (by decide)
  refine lv_ishr hx hb dX12_feed_98 ?_
  refine lv_topi (fun z143 _ => ?_)
  refine lv_i2b hx hb dX12_feed_99 rfl ?_
  refine lv_topi (fun z144 _ => ?_)
  refine va_bast hx hb hK hP hD hS 1 0 rfl rfl (by unfold vp_in; decide) dX12_feed_100 (fun H locs hP hD hS => ?_)
  have hP : va_P (dC, dI) vwCl [(a0, .inr (9, [.int 0, g8, g9, g10, g11, .ref a6, .int 13, g12, g13, g14, g15, g16, g17, g18, g19, g20, g21, g22, g23, g24, g25, g26, g27, g28, g29, g30, g31, g32, g33, g34])), (a6, .inl (cB35, 900, .inl (upd f133 (13 : Int32).toNatClampNeg (vp_nar .byte z144))))] H := hP
  have hD : va_D A [(a0, .inr (9, [.int 0, g8, g9, g10, g11, .ref a6, .int 13, g12, g13, g14, g15, g16, g17, g18, g19, g20, g21, g22, g23, g24, g25, g26, g27, g28, g29, g30, g31, g32, g33, g34])), (a6, .inl (cB35, 900, .inl (upd f133 (13 : Int32).toNatClampNeg (vp_nar .byte z144))))] := hD
  generalize upd f133 (13 : Int32).toNatClampNeg (vp_nar .byte z144) = f145 at hP hD
  refine lv_aload_n hx hb dX12_feed_101 rfl (lv_at hl 2 rfl) ?_
  refine lv_dup hx hb dX12_feed_102 rfl ?_
  refine va_get (D := (dC, dI)) (ci := 9) (v := .int 13) (C := RX12) (T := TX12) (N := 30) hx hb hts iX12_feed_X12 hown hK hP 0 rfl rfl 6 (by decide) (hts (.fieldLink RX12 292 "HookPierModel" "taped" "I") (List.mem_of_getElem? (i := 2) rfl)) (fun _ h9 => h9) rfl dX12_feed_103 ?_
  refine lv_iconst (v := 1) hx hb dX12_feed_106 (by decide) ?_
  refine lv_iadd hx hb dX12_feed_107 ?_
  refine lv_topi (fun z146 ez146 => ?_)
  obtain rfl : z146 = 14 := ez146.trans (by decide)
  refine va_put (D := (dC, dI)) (ci := 9) (v := .int 14) (ty := .int) (C := RX12) (T := TX12) (N := 30) hx hb hts iX12_feed_X12 tyX12 tyX12_ok nmX12 hown hK hP hD hS 0 rfl rfl 6 (by decide) (hts (.fieldLink RX12 292 "HookPierModel" "taped" "I") (List.mem_of_getElem? (i := 2) rfl)) (fun _ h9 => h9) rfl (by decide +kernel) rfl rfl (Nat.le_of_ble_eq_true rfl) dX12_feed_108 (fun H locs hP hD hS => ?_)
  have hP : va_P (dC, dI) vwCl [(a0, .inr (9, [.int 0, g8, g9, g10, g11, .ref a6, .int 14, g12, g13, g14, g15, g16, g17, g18, g19, g20, g21, g22, g23, g24, g25, g26, g27, g28, g29, g30, g31, g32, g33, g34])), (a6, .inl (cB35, 900, .inl f145))] H := hP
  have hD : va_D A [(a0, .inr (9, [.int 0, g8, g9, g10, g11, .ref a6, .int 14, g12, g13, g14, g15, g16, g17, g18, g19, g20, g21, g22, g23, g24, g25, g26, g27, g28, g29, g30, g31, g32, g33, g34])), (a6, .inl (cB35, 900, .inl f145))] := hD
  refine lv_iinc (v := 14) (lv' := [(6, .int 14), (7, .int k4), (0, .ref a0), (1, .int k1), (2, .int k2), (3, .int k3), (4, .int k4), (5, .int k5)]) hx hb dX12_feed_111 hl (k := 1) rfl (by decide) (by decide) rfl (fun ls hl => ?_)
  refine lv_goto (tgt := 23) hx hb dX12_feed_114 (by decide) ?_
  refine lv_iload hx hb dX12_feed_23 (lv_at hl 0 rfl) ?_
  refine lv_bipush (v := 20) hx hb dX12_feed_25 (by decide) ?_
  refine lv_icmp_ge (tgt := 117) hx hb dX12_feed_27 (by decide) (fun c147 => absurd c147 (by decide)) (fun _ => ?_)
  refine lv_iload hx hb dX12_feed_30 (lv_at hl 0 rfl) ?_
  refine lv_iconst (v := 4) hx hb dX12_feed_32 (by decide) ?_
  refine lv_icmp_ge (tgt := 40) hx hb dX12_feed_33 (by decide) (fun _ => ?_) (fun c148 => absurd c148 (by decide))
  refine lv_iload hx hb dX12_feed_40 (lv_at hl 0 rfl) ?_
  refine lv_bipush (v := 8) hx hb dX12_feed_42 (by decide) ?_
  refine lv_icmp_ge (tgt := 51) hx hb dX12_feed_44 (by decide) (fun _ => ?_) (fun c149 => absurd c149 (by decide))
  refine lv_iload hx hb dX12_feed_51 (lv_at hl 0 rfl) ?_
  refine lv_bipush (v := 12) hx hb dX12_feed_53 (by decide) ?_
  refine lv_icmp_ge (tgt := 62) hx hb dX12_feed_55 (by decide) (fun _ => ?_) (fun c150 => absurd c150 (by decide))
  refine lv_iload hx hb dX12_feed_62 (lv_at hl 0 rfl) ?_
  refine lv_bipush (v := 16) hx hb dX12_feed_64 (by decide) ?_
  refine lv_icmp_ge (tgt := 74) hx hb dX12_feed_66 (by decide) (fun c151 => absurd c151 (by decide)) (fun _ => ?_)
  refine lv_iload hx hb dX12_feed_69 (lv_at hl 6 rfl) ?_
  refine lv_goto (tgt := 76) hx hb dX12_feed_71 (by decide) ?_
  refine lv_istore (lv' := [(7, .int k4), (6, .int 14), (0, .ref a0), (1, .int k1), (2, .int k2), (3, .int k3), (4, .int k4), (5, .int k5)]) hx hb dX12_feed_76 hl (by decide) rfl (fun ls hl => ?_)
  refine lv_aload_n hx hb dX12_feed_78 rfl (lv_at hl 2 rfl) ?_
  refine va_get (D := (dC, dI)) (ci := 9) (v := .ref a6) (C := RX12) (T := TX12) (N := 30) hx hb hts iX12_feed_X12 hown hK hP 0 rfl rfl 5 (by decide) (hts (.fieldLink RX12 13 "HookPierModel" "tape" "[B") (List.mem_of_getElem? (i := 3) rfl)) (fun _ h9 => h9) rfl dX12_feed_79 ?_
  refine lv_aload_n hx hb dX12_feed_82 rfl (lv_at hl 2 rfl) ?_
  refine va_get (D := (dC, dI)) (ci := 9) (v := .int 14) (C := RX12) (T := TX12) (N := 30) hx hb hts iX12_feed_X12 hown hK hP 0 rfl rfl 6 (by decide) (hts (.fieldLink RX12 292 "HookPierModel" "taped" "I") (List.mem_of_getElem? (i := 2) rfl)) (fun _ h9 => h9) rfl dX12_feed_83 ?_
  refine lv_iload hx hb dX12_feed_86 (lv_at hl 0 rfl) ?_
  refine lv_bipush (v := 24) hx hb dX12_feed_88 (by decide) ?_
  refine lv_bipush (v := 8) hx hb dX12_feed_90 (by decide) ?_
  refine lv_iload hx hb dX12_feed_92 (lv_at hl 1 rfl) ?_
  refine lv_iconst (v := 4) hx hb dX12_feed_94 (by decide) ?_
  refine lv_irem hx hb dX12_feed_95 (by decide) ?_
  refine lv_topi (fun z152 ez152 => ?_)
  obtain rfl : z152 = 2 := ez152.trans (by decide)
  refine lv_imul hx hb dX12_feed_96 ?_
  refine lv_topi (fun z153 ez153 => ?_)
  obtain rfl : z153 = 16 := ez153.trans (by decide)
  refine lv_isub hx hb dX12_feed_97 ?_
  refine lv_topi (fun z154 ez154 => ?_)
  obtain rfl : z154 = 8 := ez154.trans (by decide)
  refine lv_ishr hx hb dX12_feed_98 ?_
  refine lv_topi (fun z155 _ => ?_)
  refine lv_i2b hx hb dX12_feed_99 rfl ?_
  refine lv_topi (fun z156 _ => ?_)
  refine va_bast hx hb hK hP hD hS 1 0 rfl rfl (by unfold vp_in; decide) dX12_feed_100 (fun H locs hP hD hS => ?_)
  have hP : va_P (dC, dI) vwCl [(a0, .inr (9, [.int 0, g8, g9, g10, g11, .ref a6, .int 14, g12, g13, g14, g15, g16, g17, g18, g19, g20, g21, g22, g23, g24, g25, g26, g27, g28, g29, g30, g31, g32, g33, g34])), (a6, .inl (cB35, 900, .inl (upd f145 (14 : Int32).toNatClampNeg (vp_nar .byte z156))))] H := hP
  have hD : va_D A [(a0, .inr (9, [.int 0, g8, g9, g10, g11, .ref a6, .int 14, g12, g13, g14, g15, g16, g17, g18, g19, g20, g21, g22, g23, g24, g25, g26, g27, g28, g29, g30, g31, g32, g33, g34])), (a6, .inl (cB35, 900, .inl (upd f145 (14 : Int32).toNatClampNeg (vp_nar .byte z156))))] := hD
  generalize upd f145 (14 : Int32).toNatClampNeg (vp_nar .byte z156) = f157 at hP hD
  refine lv_aload_n hx hb dX12_feed_101 rfl (lv_at hl 2 rfl) ?_
  refine lv_dup hx hb dX12_feed_102 rfl ?_
  refine va_get (D := (dC, dI)) (ci := 9) (v := .int 14) (C := RX12) (T := TX12) (N := 30) hx hb hts iX12_feed_X12 hown hK hP 0 rfl rfl 6 (by decide) (hts (.fieldLink RX12 292 "HookPierModel" "taped" "I") (List.mem_of_getElem? (i := 2) rfl)) (fun _ h9 => h9) rfl dX12_feed_103 ?_
  refine lv_iconst (v := 1) hx hb dX12_feed_106 (by decide) ?_
  refine lv_iadd hx hb dX12_feed_107 ?_
  refine lv_topi (fun z158 ez158 => ?_)
  obtain rfl : z158 = 15 := ez158.trans (by decide)
  refine va_put (D := (dC, dI)) (ci := 9) (v := .int 15) (ty := .int) (C := RX12) (T := TX12) (N := 30) hx hb hts iX12_feed_X12 tyX12 tyX12_ok nmX12 hown hK hP hD hS 0 rfl rfl 6 (by decide) (hts (.fieldLink RX12 292 "HookPierModel" "taped" "I") (List.mem_of_getElem? (i := 2) rfl)) (fun _ h9 => h9) rfl (by decide +kernel) rfl rfl (Nat.le_of_ble_eq_true rfl) dX12_feed_108 (fun H locs hP hD hS => ?_)
  have hP : va_P (dC, dI) vwCl [(a0, .inr (9, [.int 0, g8, g9, g10, g11, .ref a6, .int 15, g12, g13, g14, g15, g16, g17, g18, g19, g20, g21, g22, g23, g24, g25, g26, g27, g28, g29, g30, g31, g32, g33, g34])), (a6, .inl (cB35, 900, .inl f157))] H := hP
  have hD : va_D A [(a0, .inr (9, [.int 0, g8, g9, g10, g11, .ref a6, .int 15, g12, g13, g14, g15, g16, g17, g18, g19, g20, g21, g22, g23, g24, g25, g26, g27, g28, g29, g30, g31, g32, g33, g34])), (a6, .inl (cB35, 900, .inl f157))] := hD
  refine lv_iinc (v := 15) (lv' := [(6, .int 15), (7, .int k4), (0, .ref a0), (1, .int k1), (2, .int k2), (3, .int k3), (4, .int k4), (5, .int k5)]) hx hb dX12_feed_111 hl (k := 1) rfl (by decide) (by decide) rfl (fun ls hl => ?_)
  refine lv_goto (tgt := 23) hx hb dX12_feed_114 (by decide) ?_
  refine lv_iload hx hb dX12_feed_23 (lv_at hl 0 rfl) ?_
  refine lv_bipush (v := 20) hx hb dX12_feed_25 (by decide) ?_
  refine lv_icmp_ge (tgt := 117) hx hb dX12_feed_27 (by decide) (fun c159 => absurd c159 (by decide)) (fun _ => ?_)
  refine lv_iload hx hb dX12_feed_30 (lv_at hl 0 rfl) ?_
  refine lv_iconst (v := 4) hx hb dX12_feed_32 (by decide) ?_
  refine lv_icmp_ge (tgt := 40) hx hb dX12_feed_33 (by decide) (fun _ => ?_) (fun c160 => absurd c160 (by decide))
  refine lv_iload hx hb dX12_feed_40 (lv_at hl 0 rfl) ?_
  refine lv_bipush (v := 8) hx hb dX12_feed_42 (by decide) ?_
  refine lv_icmp_ge (tgt := 51) hx hb dX12_feed_44 (by decide) (fun _ => ?_) (fun c161 => absurd c161 (by decide))
  refine lv_iload hx hb dX12_feed_51 (lv_at hl 0 rfl) ?_
  refine lv_bipush (v := 12) hx hb dX12_feed_53 (by decide) ?_
  refine lv_icmp_ge (tgt := 62) hx hb dX12_feed_55 (by decide) (fun _ => ?_) (fun c162 => absurd c162 (by decide))
  refine lv_iload hx hb dX12_feed_62 (lv_at hl 0 rfl) ?_
  refine lv_bipush (v := 16) hx hb dX12_feed_64 (by decide) ?_
  refine lv_icmp_ge (tgt := 74) hx hb dX12_feed_66 (by decide) (fun c163 => absurd c163 (by decide)) (fun _ => ?_)
  refine lv_iload hx hb dX12_feed_69 (lv_at hl 6 rfl) ?_
  refine lv_goto (tgt := 76) hx hb dX12_feed_71 (by decide) ?_
  refine lv_istore (lv' := [(7, .int k4), (6, .int 15), (0, .ref a0), (1, .int k1), (2, .int k2), (3, .int k3), (4, .int k4), (5, .int k5)]) hx hb dX12_feed_76 hl (by decide) rfl (fun ls hl => ?_)
  refine lv_aload_n hx hb dX12_feed_78 rfl (lv_at hl 2 rfl) ?_
  refine va_get (D := (dC, dI)) (ci := 9) (v := .ref a6) (C := RX12) (T := TX12) (N := 30) hx hb hts iX12_feed_X12 hown hK hP 0 rfl rfl 5 (by decide) (hts (.fieldLink RX12 13 "HookPierModel" "tape" "[B") (List.mem_of_getElem? (i := 3) rfl)) (fun _ h9 => h9) rfl dX12_feed_79 ?_
  refine lv_aload_n hx hb dX12_feed_82 rfl (lv_at hl 2 rfl) ?_
  refine va_get (D := (dC, dI)) (ci := 9) (v := .int 15) (C := RX12) (T := TX12) (N := 30) hx hb hts iX12_feed_X12 hown hK hP 0 rfl rfl 6 (by decide) (hts (.fieldLink RX12 292 "HookPierModel" "taped" "I") (List.mem_of_getElem? (i := 2) rfl)) (fun _ h9 => h9) rfl dX12_feed_83 ?_
  refine lv_iload hx hb dX12_feed_86 (lv_at hl 0 rfl) ?_
  refine lv_bipush (v := 24) hx hb dX12_feed_88 (by decide) ?_
  refine lv_bipush (v := 8) hx hb dX12_feed_90 (by decide) ?_
  refine lv_iload hx hb dX12_feed_92 (lv_at hl 1 rfl) ?_
  refine lv_iconst (v := 4) hx hb dX12_feed_94 (by decide) ?_
  refine lv_irem hx hb dX12_feed_95 (by decide) ?_
  refine lv_topi (fun z164 ez164 => ?_)
  obtain rfl : z164 = 3 := ez164.trans (by decide)
  refine lv_imul hx hb dX12_feed_96 ?_
  refine lv_topi (fun z165 ez165 => ?_)
  obtain rfl : z165 = 24 := ez165.trans (by decide)
  refine lv_isub hx hb dX12_feed_97 ?_
  refine lv_topi (fun z166 ez166 => ?_)
  obtain rfl : z166 = 0 := ez166.trans (by decide)
  refine lv_ishr hx hb dX12_feed_98 ?_
  refine lv_topi (fun z167 _ => ?_)
  refine lv_i2b hx hb dX12_feed_99 rfl ?_
  refine lv_topi (fun z168 _ => ?_)
  refine va_bast hx hb hK hP hD hS 1 0 rfl rfl (by unfold vp_in; decide) dX12_feed_100 (fun H locs hP hD hS => ?_)
  have hP : va_P (dC, dI) vwCl [(a0, .inr (9, [.int 0, g8, g9, g10, g11, .ref a6, .int 15, g12, g13, g14, g15, g16, g17, g18, g19, g20, g21, g22, g23, g24, g25, g26, g27, g28, g29, g30, g31, g32, g33, g34])), (a6, .inl (cB35, 900, .inl (upd f157 (15 : Int32).toNatClampNeg (vp_nar .byte z168))))] H := hP
  have hD : va_D A [(a0, .inr (9, [.int 0, g8, g9, g10, g11, .ref a6, .int 15, g12, g13, g14, g15, g16, g17, g18, g19, g20, g21, g22, g23, g24, g25, g26, g27, g28, g29, g30, g31, g32, g33, g34])), (a6, .inl (cB35, 900, .inl (upd f157 (15 : Int32).toNatClampNeg (vp_nar .byte z168))))] := hD
  generalize upd f157 (15 : Int32).toNatClampNeg (vp_nar .byte z168) = f169 at hP hD
  refine lv_aload_n hx hb dX12_feed_101 rfl (lv_at hl 2 rfl) ?_
  refine lv_dup hx hb dX12_feed_102 rfl ?_
  refine va_get (D := (dC, dI)) (ci := 9) (v := .int 15) (C := RX12) (T := TX12) (N := 30) hx hb hts iX12_feed_X12 hown hK hP 0 rfl rfl 6 (by decide) (hts (.fieldLink RX12 292 "HookPierModel" "taped" "I") (List.mem_of_getElem? (i := 2) rfl)) (fun _ h9 => h9) rfl dX12_feed_103 ?_
  refine lv_iconst (v := 1) hx hb dX12_feed_106 (by decide) ?_
  refine lv_iadd hx hb dX12_feed_107 ?_
  refine lv_topi (fun z170 ez170 => ?_)
  obtain rfl : z170 = 16 := ez170.trans (by decide)
  refine va_put (D := (dC, dI)) (ci := 9) (v := .int 16) (ty := .int) (C := RX12) (T := TX12) (N := 30) hx hb hts iX12_feed_X12 tyX12 tyX12_ok nmX12 hown hK hP hD hS 0 rfl rfl 6 (by decide) (hts (.fieldLink RX12 292 "HookPierModel" "taped" "I") (List.mem_of_getElem? (i := 2) rfl)) (fun _ h9 => h9) rfl (by decide +kernel) rfl rfl (Nat.le_of_ble_eq_true rfl) dX12_feed_108 (fun H locs hP hD hS => ?_)
  have hP : va_P (dC, dI) vwCl [(a0, .inr (9, [.int 0, g8, g9, g10, g11, .ref a6, .int 16, g12, g13, g14, g15, g16, g17, g18, g19, g20, g21, g22, g23, g24, g25, g26, g27, g28, g29, g30, g31, g32, g33, g34])), (a6, .inl (cB35, 900, .inl f169))] H := hP
  have hD : va_D A [(a0, .inr (9, [.int 0, g8, g9, g10, g11, .ref a6, .int 16, g12, g13, g14, g15, g16, g17, g18, g19, g20, g21, g22, g23, g24, g25, g26, g27, g28, g29, g30, g31, g32, g33, g34])), (a6, .inl (cB35, 900, .inl f169))] := hD
  refine lv_iinc (v := 16) (lv' := [(6, .int 16), (7, .int k4), (0, .ref a0), (1, .int k1), (2, .int k2), (3, .int k3), (4, .int k4), (5, .int k5)]) hx hb dX12_feed_111 hl (k := 1) rfl (by decide) (by decide) rfl (fun ls hl => ?_)
  refine lv_goto (tgt := 23) hx hb dX12_feed_114 (by decide) ?_
  refine lv_iload hx hb dX12_feed_23 (lv_at hl 0 rfl) ?_
  refine lv_bipush (v := 20) hx hb dX12_feed_25 (by decide) ?_
  refine lv_icmp_ge (tgt := 117) hx hb dX12_feed_27 (by decide) (fun c171 => absurd c171 (by decide)) (fun _ => ?_)
  refine lv_iload hx hb dX12_feed_30 (lv_at hl 0 rfl) ?_
  refine lv_iconst (v := 4) hx hb dX12_feed_32 (by decide) ?_
  refine lv_icmp_ge (tgt := 40) hx hb dX12_feed_33 (by decide) (fun _ => ?_) (fun c172 => absurd c172 (by decide))
  refine lv_iload hx hb dX12_feed_40 (lv_at hl 0 rfl) ?_
  refine lv_bipush (v := 8) hx hb dX12_feed_42 (by decide) ?_
  refine lv_icmp_ge (tgt := 51) hx hb dX12_feed_44 (by decide) (fun _ => ?_) (fun c173 => absurd c173 (by decide))
  refine lv_iload hx hb dX12_feed_51 (lv_at hl 0 rfl) ?_
  refine lv_bipush (v := 12) hx hb dX12_feed_53 (by decide) ?_
  refine lv_icmp_ge (tgt := 62) hx hb dX12_feed_55 (by decide) (fun _ => ?_) (fun c174 => absurd c174 (by decide))
  refine lv_iload hx hb dX12_feed_62 (lv_at hl 0 rfl) ?_
  refine lv_bipush (v := 16) hx hb dX12_feed_64 (by decide) ?_
  refine lv_icmp_ge (tgt := 74) hx hb dX12_feed_66 (by decide) (fun _ => ?_) (fun c175 => absurd c175 (by decide))
  refine lv_iload hx hb dX12_feed_74 (lv_at hl 7 rfl) ?_
  refine lv_istore (lv' := [(7, .int k5), (6, .int 16), (0, .ref a0), (1, .int k1), (2, .int k2), (3, .int k3), (4, .int k4), (5, .int k5)]) hx hb dX12_feed_76 hl (by decide) rfl (fun ls hl => ?_)
  refine lv_aload_n hx hb dX12_feed_78 rfl (lv_at hl 2 rfl) ?_
  refine va_get (D := (dC, dI)) (ci := 9) (v := .ref a6) (C := RX12) (T := TX12) (N := 30) hx hb hts iX12_feed_X12 hown hK hP 0 rfl rfl 5 (by decide) (hts (.fieldLink RX12 13 "HookPierModel" "tape" "[B") (List.mem_of_getElem? (i := 3) rfl)) (fun _ h9 => h9) rfl dX12_feed_79 ?_
  refine lv_aload_n hx hb dX12_feed_82 rfl (lv_at hl 2 rfl) ?_
  refine va_get (D := (dC, dI)) (ci := 9) (v := .int 16) (C := RX12) (T := TX12) (N := 30) hx hb hts iX12_feed_X12 hown hK hP 0 rfl rfl 6 (by decide) (hts (.fieldLink RX12 292 "HookPierModel" "taped" "I") (List.mem_of_getElem? (i := 2) rfl)) (fun _ h9 => h9) rfl dX12_feed_83 ?_
  refine lv_iload hx hb dX12_feed_86 (lv_at hl 0 rfl) ?_
  refine lv_bipush (v := 24) hx hb dX12_feed_88 (by decide) ?_
  refine lv_bipush (v := 8) hx hb dX12_feed_90 (by decide) ?_
  refine lv_iload hx hb dX12_feed_92 (lv_at hl 1 rfl) ?_
  refine lv_iconst (v := 4) hx hb dX12_feed_94 (by decide) ?_
  refine lv_irem hx hb dX12_feed_95 (by decide) ?_
  refine lv_topi (fun z176 ez176 => ?_)
  obtain rfl : z176 = 0 := ez176.trans (by decide)
  refine lv_imul hx hb dX12_feed_96 ?_
  refine lv_topi (fun z177 ez177 => ?_)
  obtain rfl : z177 = 0 := ez177.trans (by decide)
  refine lv_isub hx hb dX12_feed_97 ?_
  refine lv_topi (fun z178 ez178 => ?_)
  obtain rfl : z178 = 24 := ez178.trans (by decide)
  refine lv_ishr hx hb dX12_feed_98 ?_
  refine lv_topi (fun z179 _ => ?_)
  refine lv_i2b hx hb dX12_feed_99 rfl ?_
  refine lv_topi (fun z180 _ => ?_)
  refine va_bast hx hb hK hP hD hS 1 0 rfl rfl (by unfold vp_in; decide) dX12_feed_100 (fun H locs hP hD hS => ?_)
  have hP : va_P (dC, dI) vwCl [(a0, .inr (9, [.int 0, g8, g9, g10, g11, .ref a6, .int 16, g12, g13, g14, g15, g16, g17, g18, g19, g20, g21, g22, g23, g24, g25, g26, g27, g28, g29, g30, g31, g32, g33, g34])), (a6, .inl (cB35, 900, .inl (upd f169 (16 : Int32).toNatClampNeg (vp_nar .byte z180))))] H := hP
  have hD : va_D A [(a0, .inr (9, [.int 0, g8, g9, g10, g11, .ref a6, .int 16, g12, g13, g14, g15, g16, g17, g18, g19, g20, g21, g22, g23, g24, g25, g26, g27, g28, g29, g30, g31, g32, g33, g34])), (a6, .inl (cB35, 900, .inl (upd f169 (16 : Int32).toNatClampNeg (vp_nar .byte z180))))] := hD
  generalize upd f169 (16 : Int32).toNatClampNeg (vp_nar .byte z180) = f181 at hP hD
  refine lv_aload_n hx hb dX12_feed_101 rfl (lv_at hl 2 rfl) ?_
  refine lv_dup hx hb dX12_feed_102 rfl ?_
  refine va_get (D := (dC, dI)) (ci := 9) (v := .int 16) (C := RX12) (T := TX12) (N := 30) hx hb hts iX12_feed_X12 hown hK hP 0 rfl rfl 6 (by decide) (hts (.fieldLink RX12 292 "HookPierModel" "taped" "I") (List.mem_of_getElem? (i := 2) rfl)) (fun _ h9 => h9) rfl dX12_feed_103 ?_
  refine lv_iconst (v := 1) hx hb dX12_feed_106 (by decide) ?_
  refine lv_iadd hx hb dX12_feed_107 ?_
  refine lv_topi (fun z182 ez182 => ?_)
  obtain rfl : z182 = 17 := ez182.trans (by decide)
  refine va_put (D := (dC, dI)) (ci := 9) (v := .int 17) (ty := .int) (C := RX12) (T := TX12) (N := 30) hx hb hts iX12_feed_X12 tyX12 tyX12_ok nmX12 hown hK hP hD hS 0 rfl rfl 6 (by decide) (hts (.fieldLink RX12 292 "HookPierModel" "taped" "I") (List.mem_of_getElem? (i := 2) rfl)) (fun _ h9 => h9) rfl (by decide +kernel) rfl rfl (Nat.le_of_ble_eq_true rfl) dX12_feed_108 (fun H locs hP hD hS => ?_)
  have hP : va_P (dC, dI) vwCl [(a0, .inr (9, [.int 0, g8, g9, g10, g11, .ref a6, .int 17, g12, g13, g14, g15, g16, g17, g18, g19, g20, g21, g22, g23, g24, g25, g26, g27, g28, g29, g30, g31, g32, g33, g34])), (a6, .inl (cB35, 900, .inl f181))] H := hP
  have hD : va_D A [(a0, .inr (9, [.int 0, g8, g9, g10, g11, .ref a6, .int 17, g12, g13, g14, g15, g16, g17, g18, g19, g20, g21, g22, g23, g24, g25, g26, g27, g28, g29, g30, g31, g32, g33, g34])), (a6, .inl (cB35, 900, .inl f181))] := hD
  refine lv_iinc (v := 17) (lv' := [(6, .int 17), (7, .int k5), (0, .ref a0), (1, .int k1), (2, .int k2), (3, .int k3), (4, .int k4), (5, .int k5)]) hx hb dX12_feed_111 hl (k := 1) rfl (by decide) (by decide) rfl (fun ls hl => ?_)
  refine lv_goto (tgt := 23) hx hb dX12_feed_114 (by decide) ?_
  refine lv_iload hx hb dX12_feed_23 (lv_at hl 0 rfl) ?_
  refine lv_bipush (v := 20) hx hb dX12_feed_25 (by decide) ?_
  refine lv_icmp_ge (tgt := 117) hx hb dX12_feed_27 (by decide) (fun c183 => absurd c183 (by decide)) (fun _ => ?_)
  refine lv_iload hx hb dX12_feed_30 (lv_at hl 0 rfl) ?_
  refine lv_iconst (v := 4) hx hb dX12_feed_32 (by decide) ?_
  refine lv_icmp_ge (tgt := 40) hx hb dX12_feed_33 (by decide) (fun _ => ?_) (fun c184 => absurd c184 (by decide))
  refine lv_iload hx hb dX12_feed_40 (lv_at hl 0 rfl) ?_
  refine lv_bipush (v := 8) hx hb dX12_feed_42 (by decide) ?_
  refine lv_icmp_ge (tgt := 51) hx hb dX12_feed_44 (by decide) (fun _ => ?_) (fun c185 => absurd c185 (by decide))
  refine lv_iload hx hb dX12_feed_51 (lv_at hl 0 rfl) ?_
  refine lv_bipush (v := 12) hx hb dX12_feed_53 (by decide) ?_
  refine lv_icmp_ge (tgt := 62) hx hb dX12_feed_55 (by decide) (fun _ => ?_) (fun c186 => absurd c186 (by decide))
  refine lv_iload hx hb dX12_feed_62 (lv_at hl 0 rfl) ?_
  refine lv_bipush (v := 16) hx hb dX12_feed_64 (by decide) ?_
  refine lv_icmp_ge (tgt := 74) hx hb dX12_feed_66 (by decide) (fun _ => ?_) (fun c187 => absurd c187 (by decide))
  refine lv_iload hx hb dX12_feed_74 (lv_at hl 7 rfl) ?_
  refine lv_istore (lv' := [(7, .int k5), (6, .int 17), (0, .ref a0), (1, .int k1), (2, .int k2), (3, .int k3), (4, .int k4), (5, .int k5)]) hx hb dX12_feed_76 hl (by decide) rfl (fun ls hl => ?_)
  refine lv_aload_n hx hb dX12_feed_78 rfl (lv_at hl 2 rfl) ?_
  refine va_get (D := (dC, dI)) (ci := 9) (v := .ref a6) (C := RX12) (T := TX12) (N := 30) hx hb hts iX12_feed_X12 hown hK hP 0 rfl rfl 5 (by decide) (hts (.fieldLink RX12 13 "HookPierModel" "tape" "[B") (List.mem_of_getElem? (i := 3) rfl)) (fun _ h9 => h9) rfl dX12_feed_79 ?_
  refine lv_aload_n hx hb dX12_feed_82 rfl (lv_at hl 2 rfl) ?_
  refine va_get (D := (dC, dI)) (ci := 9) (v := .int 17) (C := RX12) (T := TX12) (N := 30) hx hb hts iX12_feed_X12 hown hK hP 0 rfl rfl 6 (by decide) (hts (.fieldLink RX12 292 "HookPierModel" "taped" "I") (List.mem_of_getElem? (i := 2) rfl)) (fun _ h9 => h9) rfl dX12_feed_83 ?_
  refine lv_iload hx hb dX12_feed_86 (lv_at hl 0 rfl) ?_
  refine lv_bipush (v := 24) hx hb dX12_feed_88 (by decide) ?_
  refine lv_bipush (v := 8) hx hb dX12_feed_90 (by decide) ?_
  refine lv_iload hx hb dX12_feed_92 (lv_at hl 1 rfl) ?_
  refine lv_iconst (v := 4) hx hb dX12_feed_94 (by decide) ?_
  refine lv_irem hx hb dX12_feed_95 (by decide) ?_
  refine lv_topi (fun z188 ez188 => ?_)
  obtain rfl : z188 = 1 := ez188.trans (by decide)
  refine lv_imul hx hb dX12_feed_96 ?_
  refine lv_topi (fun z189 ez189 => ?_)
  obtain rfl : z189 = 8 := ez189.trans (by decide)
  refine lv_isub hx hb dX12_feed_97 ?_
  refine lv_topi (fun z190 ez190 => ?_)
  obtain rfl : z190 = 16 := ez190.trans (by decide)
  refine lv_ishr hx hb dX12_feed_98 ?_
  refine lv_topi (fun z191 _ => ?_)
  refine lv_i2b hx hb dX12_feed_99 rfl ?_
  refine lv_topi (fun z192 _ => ?_)
  refine va_bast hx hb hK hP hD hS 1 0 rfl rfl (by unfold vp_in; decide) dX12_feed_100 (fun H locs hP hD hS => ?_)
  have hP : va_P (dC, dI) vwCl [(a0, .inr (9, [.int 0, g8, g9, g10, g11, .ref a6, .int 17, g12, g13, g14, g15, g16, g17, g18, g19, g20, g21, g22, g23, g24, g25, g26, g27, g28, g29, g30, g31, g32, g33, g34])), (a6, .inl (cB35, 900, .inl (upd f181 (17 : Int32).toNatClampNeg (vp_nar .byte z192))))] H := hP
  have hD : va_D A [(a0, .inr (9, [.int 0, g8, g9, g10, g11, .ref a6, .int 17, g12, g13, g14, g15, g16, g17, g18, g19, g20, g21, g22, g23, g24, g25, g26, g27, g28, g29, g30, g31, g32, g33, g34])), (a6, .inl (cB35, 900, .inl (upd f181 (17 : Int32).toNatClampNeg (vp_nar .byte z192))))] := hD
  generalize upd f181 (17 : Int32).toNatClampNeg (vp_nar .byte z192) = f193 at hP hD
  refine lv_aload_n hx hb dX12_feed_101 rfl (lv_at hl 2 rfl) ?_
  refine lv_dup hx hb dX12_feed_102 rfl ?_
  refine va_get (D := (dC, dI)) (ci := 9) (v := .int 17) (C := RX12) (T := TX12) (N := 30) hx hb hts iX12_feed_X12 hown hK hP 0 rfl rfl 6 (by decide) (hts (.fieldLink RX12 292 "HookPierModel" "taped" "I") (List.mem_of_getElem? (i := 2) rfl)) (fun _ h9 => h9) rfl dX12_feed_103 ?_
  refine lv_iconst (v := 1) hx hb dX12_feed_106 (by decide) ?_
  refine lv_iadd hx hb dX12_feed_107 ?_
  refine lv_topi (fun z194 ez194 => ?_)
  obtain rfl : z194 = 18 := ez194.trans (by decide)
  refine va_put (D := (dC, dI)) (ci := 9) (v := .int 18) (ty := .int) (C := RX12) (T := TX12) (N := 30) hx hb hts iX12_feed_X12 tyX12 tyX12_ok nmX12 hown hK hP hD hS 0 rfl rfl 6 (by decide) (hts (.fieldLink RX12 292 "HookPierModel" "taped" "I") (List.mem_of_getElem? (i := 2) rfl)) (fun _ h9 => h9) rfl (by decide +kernel) rfl rfl (Nat.le_of_ble_eq_true rfl) dX12_feed_108 (fun H locs hP hD hS => ?_)
  have hP : va_P (dC, dI) vwCl [(a0, .inr (9, [.int 0, g8, g9, g10, g11, .ref a6, .int 18, g12, g13, g14, g15, g16, g17, g18, g19, g20, g21, g22, g23, g24, g25, g26, g27, g28, g29, g30, g31, g32, g33, g34])), (a6, .inl (cB35, 900, .inl f193))] H := hP
  have hD : va_D A [(a0, .inr (9, [.int 0, g8, g9, g10, g11, .ref a6, .int 18, g12, g13, g14, g15, g16, g17, g18, g19, g20, g21, g22, g23, g24, g25, g26, g27, g28, g29, g30, g31, g32, g33, g34])), (a6, .inl (cB35, 900, .inl f193))] := hD
  refine lv_iinc (v := 18) (lv' := [(6, .int 18), (7, .int k5), (0, .ref a0), (1, .int k1), (2, .int k2), (3, .int k3), (4, .int k4), (5, .int k5)]) hx hb dX12_feed_111 hl (k := 1) rfl (by decide) (by decide) rfl (fun ls hl => ?_)
  refine lv_goto (tgt := 23) hx hb dX12_feed_114 (by decide) ?_
  refine lv_iload hx hb dX12_feed_23 (lv_at hl 0 rfl) ?_
  refine lv_bipush (v := 20) hx hb dX12_feed_25 (by decide) ?_
  refine lv_icmp_ge (tgt := 117) hx hb dX12_feed_27 (by decide) (fun c195 => absurd c195 (by decide)) (fun _ => ?_)
  refine lv_iload hx hb dX12_feed_30 (lv_at hl 0 rfl) ?_
  refine lv_iconst (v := 4) hx hb dX12_feed_32 (by decide) ?_
  refine lv_icmp_ge (tgt := 40) hx hb dX12_feed_33 (by decide) (fun _ => ?_) (fun c196 => absurd c196 (by decide))
  refine lv_iload hx hb dX12_feed_40 (lv_at hl 0 rfl) ?_
  refine lv_bipush (v := 8) hx hb dX12_feed_42 (by decide) ?_
  refine lv_icmp_ge (tgt := 51) hx hb dX12_feed_44 (by decide) (fun _ => ?_) (fun c197 => absurd c197 (by decide))
  refine lv_iload hx hb dX12_feed_51 (lv_at hl 0 rfl) ?_
  refine lv_bipush (v := 12) hx hb dX12_feed_53 (by decide) ?_
  refine lv_icmp_ge (tgt := 62) hx hb dX12_feed_55 (by decide) (fun _ => ?_) (fun c198 => absurd c198 (by decide))
  refine lv_iload hx hb dX12_feed_62 (lv_at hl 0 rfl) ?_
  refine lv_bipush (v := 16) hx hb dX12_feed_64 (by decide) ?_
  refine lv_icmp_ge (tgt := 74) hx hb dX12_feed_66 (by decide) (fun _ => ?_) (fun c199 => absurd c199 (by decide))
  refine lv_iload hx hb dX12_feed_74 (lv_at hl 7 rfl) ?_
  refine lv_istore (lv' := [(7, .int k5), (6, .int 18), (0, .ref a0), (1, .int k1), (2, .int k2), (3, .int k3), (4, .int k4), (5, .int k5)]) hx hb dX12_feed_76 hl (by decide) rfl (fun ls hl => ?_)
  refine lv_aload_n hx hb dX12_feed_78 rfl (lv_at hl 2 rfl) ?_
  refine va_get (D := (dC, dI)) (ci := 9) (v := .ref a6) (C := RX12) (T := TX12) (N := 30) hx hb hts iX12_feed_X12 hown hK hP 0 rfl rfl 5 (by decide) (hts (.fieldLink RX12 13 "HookPierModel" "tape" "[B") (List.mem_of_getElem? (i := 3) rfl)) (fun _ h9 => h9) rfl dX12_feed_79 ?_
  refine lv_aload_n hx hb dX12_feed_82 rfl (lv_at hl 2 rfl) ?_
  refine va_get (D := (dC, dI)) (ci := 9) (v := .int 18) (C := RX12) (T := TX12) (N := 30) hx hb hts iX12_feed_X12 hown hK hP 0 rfl rfl 6 (by decide) (hts (.fieldLink RX12 292 "HookPierModel" "taped" "I") (List.mem_of_getElem? (i := 2) rfl)) (fun _ h9 => h9) rfl dX12_feed_83 ?_
  refine lv_iload hx hb dX12_feed_86 (lv_at hl 0 rfl) ?_
  refine lv_bipush (v := 24) hx hb dX12_feed_88 (by decide) ?_
  refine lv_bipush (v := 8) hx hb dX12_feed_90 (by decide) ?_
  refine lv_iload hx hb dX12_feed_92 (lv_at hl 1 rfl) ?_
  refine lv_iconst (v := 4) hx hb dX12_feed_94 (by decide) ?_
  refine lv_irem hx hb dX12_feed_95 (by decide) ?_
  refine lv_topi (fun z200 ez200 => ?_)
  obtain rfl : z200 = 2 := ez200.trans (by decide)
  refine lv_imul hx hb dX12_feed_96 ?_
  refine lv_topi (fun z201 ez201 => ?_)
  obtain rfl : z201 = 16 := ez201.trans (by decide)
  refine lv_isub hx hb dX12_feed_97 ?_
  refine lv_topi (fun z202 ez202 => ?_)
  obtain rfl : z202 = 8 := ez202.trans (by decide)
  refine lv_ishr hx hb dX12_feed_98 ?_
  refine lv_topi (fun z203 _ => ?_)
  refine lv_i2b hx hb dX12_feed_99 rfl ?_
  refine lv_topi (fun z204 _ => ?_)
  refine va_bast hx hb hK hP hD hS 1 0 rfl rfl (by unfold vp_in; decide) dX12_feed_100 (fun H locs hP hD hS => ?_)
  have hP : va_P (dC, dI) vwCl [(a0, .inr (9, [.int 0, g8, g9, g10, g11, .ref a6, .int 18, g12, g13, g14, g15, g16, g17, g18, g19, g20, g21, g22, g23, g24, g25, g26, g27, g28, g29, g30, g31, g32, g33, g34])), (a6, .inl (cB35, 900, .inl (upd f193 (18 : Int32).toNatClampNeg (vp_nar .byte z204))))] H := hP
  have hD : va_D A [(a0, .inr (9, [.int 0, g8, g9, g10, g11, .ref a6, .int 18, g12, g13, g14, g15, g16, g17, g18, g19, g20, g21, g22, g23, g24, g25, g26, g27, g28, g29, g30, g31, g32, g33, g34])), (a6, .inl (cB35, 900, .inl (upd f193 (18 : Int32).toNatClampNeg (vp_nar .byte z204))))] := hD
  generalize upd f193 (18 : Int32).toNatClampNeg (vp_nar .byte z204) = f205 at hP hD
  refine lv_aload_n hx hb dX12_feed_101 rfl (lv_at hl 2 rfl) ?_
  refine lv_dup hx hb dX12_feed_102 rfl ?_
  refine va_get (D := (dC, dI)) (ci := 9) (v := .int 18) (C := RX12) (T := TX12) (N := 30) hx hb hts iX12_feed_X12 hown hK hP 0 rfl rfl 6 (by decide) (hts (.fieldLink RX12 292 "HookPierModel" "taped" "I") (List.mem_of_getElem? (i := 2) rfl)) (fun _ h9 => h9) rfl dX12_feed_103 ?_
  refine lv_iconst (v := 1) hx hb dX12_feed_106 (by decide) ?_
  refine lv_iadd hx hb dX12_feed_107 ?_
  refine lv_topi (fun z206 ez206 => ?_)
  obtain rfl : z206 = 19 := ez206.trans (by decide)
  refine va_put (D := (dC, dI)) (ci := 9) (v := .int 19) (ty := .int) (C := RX12) (T := TX12) (N := 30) hx hb hts iX12_feed_X12 tyX12 tyX12_ok nmX12 hown hK hP hD hS 0 rfl rfl 6 (by decide) (hts (.fieldLink RX12 292 "HookPierModel" "taped" "I") (List.mem_of_getElem? (i := 2) rfl)) (fun _ h9 => h9) rfl (by decide +kernel) rfl rfl (Nat.le_of_ble_eq_true rfl) dX12_feed_108 (fun H locs hP hD hS => ?_)
  have hP : va_P (dC, dI) vwCl [(a0, .inr (9, [.int 0, g8, g9, g10, g11, .ref a6, .int 19, g12, g13, g14, g15, g16, g17, g18, g19, g20, g21, g22, g23, g24, g25, g26, g27, g28, g29, g30, g31, g32, g33, g34])), (a6, .inl (cB35, 900, .inl f205))] H := hP
  have hD : va_D A [(a0, .inr (9, [.int 0, g8, g9, g10, g11, .ref a6, .int 19, g12, g13, g14, g15, g16, g17, g18, g19, g20, g21, g22, g23, g24, g25, g26, g27, g28, g29, g30, g31, g32, g33, g34])), (a6, .inl (cB35, 900, .inl f205))] := hD
  refine lv_iinc (v := 19) (lv' := [(6, .int 19), (7, .int k5), (0, .ref a0), (1, .int k1), (2, .int k2), (3, .int k3), (4, .int k4), (5, .int k5)]) hx hb dX12_feed_111 hl (k := 1) rfl (by decide) (by decide) rfl (fun ls hl => ?_)
  refine lv_goto (tgt := 23) hx hb dX12_feed_114 (by decide) ?_
  refine lv_iload hx hb dX12_feed_23 (lv_at hl 0 rfl) ?_
  refine lv_bipush (v := 20) hx hb dX12_feed_25 (by decide) ?_
  refine lv_icmp_ge (tgt := 117) hx hb dX12_feed_27 (by decide) (fun c207 => absurd c207 (by decide)) (fun _ => ?_)
  refine lv_iload hx hb dX12_feed_30 (lv_at hl 0 rfl) ?_
  refine lv_iconst (v := 4) hx hb dX12_feed_32 (by decide) ?_
  refine lv_icmp_ge (tgt := 40) hx hb dX12_feed_33 (by decide) (fun _ => ?_) (fun c208 => absurd c208 (by decide))
  refine lv_iload hx hb dX12_feed_40 (lv_at hl 0 rfl) ?_
  refine lv_bipush (v := 8) hx hb dX12_feed_42 (by decide) ?_
  refine lv_icmp_ge (tgt := 51) hx hb dX12_feed_44 (by decide) (fun _ => ?_) (fun c209 => absurd c209 (by decide))
  refine lv_iload hx hb dX12_feed_51 (lv_at hl 0 rfl) ?_
  refine lv_bipush (v := 12) hx hb dX12_feed_53 (by decide) ?_
  refine lv_icmp_ge (tgt := 62) hx hb dX12_feed_55 (by decide) (fun _ => ?_) (fun c210 => absurd c210 (by decide))
  refine lv_iload hx hb dX12_feed_62 (lv_at hl 0 rfl) ?_
  refine lv_bipush (v := 16) hx hb dX12_feed_64 (by decide) ?_
  refine lv_icmp_ge (tgt := 74) hx hb dX12_feed_66 (by decide) (fun _ => ?_) (fun c211 => absurd c211 (by decide))
  refine lv_iload hx hb dX12_feed_74 (lv_at hl 7 rfl) ?_
  refine lv_istore (lv' := [(7, .int k5), (6, .int 19), (0, .ref a0), (1, .int k1), (2, .int k2), (3, .int k3), (4, .int k4), (5, .int k5)]) hx hb dX12_feed_76 hl (by decide) rfl (fun ls hl => ?_)
  refine lv_aload_n hx hb dX12_feed_78 rfl (lv_at hl 2 rfl) ?_
  refine va_get (D := (dC, dI)) (ci := 9) (v := .ref a6) (C := RX12) (T := TX12) (N := 30) hx hb hts iX12_feed_X12 hown hK hP 0 rfl rfl 5 (by decide) (hts (.fieldLink RX12 13 "HookPierModel" "tape" "[B") (List.mem_of_getElem? (i := 3) rfl)) (fun _ h9 => h9) rfl dX12_feed_79 ?_
  refine lv_aload_n hx hb dX12_feed_82 rfl (lv_at hl 2 rfl) ?_
  refine va_get (D := (dC, dI)) (ci := 9) (v := .int 19) (C := RX12) (T := TX12) (N := 30) hx hb hts iX12_feed_X12 hown hK hP 0 rfl rfl 6 (by decide) (hts (.fieldLink RX12 292 "HookPierModel" "taped" "I") (List.mem_of_getElem? (i := 2) rfl)) (fun _ h9 => h9) rfl dX12_feed_83 ?_
  refine lv_iload hx hb dX12_feed_86 (lv_at hl 0 rfl) ?_
  refine lv_bipush (v := 24) hx hb dX12_feed_88 (by decide) ?_
  refine lv_bipush (v := 8) hx hb dX12_feed_90 (by decide) ?_
  refine lv_iload hx hb dX12_feed_92 (lv_at hl 1 rfl) ?_
  refine lv_iconst (v := 4) hx hb dX12_feed_94 (by decide) ?_
  refine lv_irem hx hb dX12_feed_95 (by decide) ?_
  refine lv_topi (fun z212 ez212 => ?_)
  obtain rfl : z212 = 3 := ez212.trans (by decide)
  refine lv_imul hx hb dX12_feed_96 ?_
  refine lv_topi (fun z213 ez213 => ?_)
  obtain rfl : z213 = 24 := ez213.trans (by decide)
  refine lv_isub hx hb dX12_feed_97 ?_
  refine lv_topi (fun z214 ez214 => ?_)
  obtain rfl : z214 = 0 := ez214.trans (by decide)
  refine lv_ishr hx hb dX12_feed_98 ?_
  refine lv_topi (fun z215 _ => ?_)
  refine lv_i2b hx hb dX12_feed_99 rfl ?_
  refine lv_topi (fun z216 _ => ?_)
  refine va_bast hx hb hK hP hD hS 1 0 rfl rfl (by unfold vp_in; decide) dX12_feed_100 (fun H locs hP hD hS => ?_)
  have hP : va_P (dC, dI) vwCl [(a0, .inr (9, [.int 0, g8, g9, g10, g11, .ref a6, .int 19, g12, g13, g14, g15, g16, g17, g18, g19, g20, g21, g22, g23, g24, g25, g26, g27, g28, g29, g30, g31, g32, g33, g34])), (a6, .inl (cB35, 900, .inl (upd f205 (19 : Int32).toNatClampNeg (vp_nar .byte z216))))] H := hP
  have hD : va_D A [(a0, .inr (9, [.int 0, g8, g9, g10, g11, .ref a6, .int 19, g12, g13, g14, g15, g16, g17, g18, g19, g20, g21, g22, g23, g24, g25, g26, g27, g28, g29, g30, g31, g32, g33, g34])), (a6, .inl (cB35, 900, .inl (upd f205 (19 : Int32).toNatClampNeg (vp_nar .byte z216))))] := hD
  generalize upd f205 (19 : Int32).toNatClampNeg (vp_nar .byte z216) = f217 at hP hD
  refine lv_aload_n hx hb dX12_feed_101 rfl (lv_at hl 2 rfl) ?_
  refine lv_dup hx hb dX12_feed_102 rfl ?_
  refine va_get (D := (dC, dI)) (ci := 9) (v := .int 19) (C := RX12) (T := TX12) (N := 30) hx hb hts iX12_feed_X12 hown hK hP 0 rfl rfl 6 (by decide) (hts (.fieldLink RX12 292 "HookPierModel" "taped" "I") (List.mem_of_getElem? (i := 2) rfl)) (fun _ h9 => h9) rfl dX12_feed_103 ?_
  refine lv_iconst (v := 1) hx hb dX12_feed_106 (by decide) ?_
  refine lv_iadd hx hb dX12_feed_107 ?_
  refine lv_topi (fun z218 ez218 => ?_)
  obtain rfl : z218 = 20 := ez218.trans (by decide)
  refine va_put (D := (dC, dI)) (ci := 9) (v := .int 20) (ty := .int) (C := RX12) (T := TX12) (N := 30) hx hb hts iX12_feed_X12 tyX12 tyX12_ok nmX12 hown hK hP hD hS 0 rfl rfl 6 (by decide) (hts (.fieldLink RX12 292 "HookPierModel" "taped" "I") (List.mem_of_getElem? (i := 2) rfl)) (fun _ h9 => h9) rfl (by decide +kernel) rfl rfl (Nat.le_of_ble_eq_true rfl) dX12_feed_108 (fun H locs hP hD hS => ?_)
  have hP : va_P (dC, dI) vwCl [(a0, .inr (9, [.int 0, g8, g9, g10, g11, .ref a6, .int 20, g12, g13, g14, g15, g16, g17, g18, g19, g20, g21, g22, g23, g24, g25, g26, g27, g28, g29, g30, g31, g32, g33, g34])), (a6, .inl (cB35, 900, .inl f217))] H := hP
  have hD : va_D A [(a0, .inr (9, [.int 0, g8, g9, g10, g11, .ref a6, .int 20, g12, g13, g14, g15, g16, g17, g18, g19, g20, g21, g22, g23, g24, g25, g26, g27, g28, g29, g30, g31, g32, g33, g34])), (a6, .inl (cB35, 900, .inl f217))] := hD
  refine lv_iinc (v := 20) (lv' := [(6, .int 20), (7, .int k5), (0, .ref a0), (1, .int k1), (2, .int k2), (3, .int k3), (4, .int k4), (5, .int k5)]) hx hb dX12_feed_111 hl (k := 1) rfl (by decide) (by decide) rfl (fun ls hl => ?_)
  refine lv_goto (tgt := 23) hx hb dX12_feed_114 (by decide) ?_
  refine lv_iload hx hb dX12_feed_23 (lv_at hl 0 rfl) ?_
  refine lv_bipush (v := 20) hx hb dX12_feed_25 (by decide) ?_
  refine lv_icmp_ge (tgt := 117) hx hb dX12_feed_27 (by decide) (fun _ => ?_) (fun c219 => absurd c219 (by decide))
  refine lv_aload_n hx hb dX12_feed_117 rfl (lv_at hl 2 rfl) ?_
  refine va_get (D := (dC, dI)) (ci := 9) (v := .int 20) (C := RX12) (T := TX12) (N := 30) hx hb hts iX12_feed_X12 hown hK hP 0 rfl rfl 6 (by decide) (hts (.fieldLink RX12 292 "HookPierModel" "taped" "I") (List.mem_of_getElem? (i := 2) rfl)) (fun _ h9 => h9) rfl dX12_feed_118 ?_
  have hP9 := hP.sub (ws' := []) [] rfl
  have hD9 := hD.sub (ws' := []) [] (by decide) rfl
  have hK9 := hK.sub (tys' := []) [] rfl
  exact W.iret (v := 20) hx hb hr (fun t ht hW => ⟨⟨20, (), rfl, rfl, by rw [ht]; exact hP9, va_K.moved hW.alike hK9, hD9⟩, hS.F ht⟩) hS.2.2 dX12_feed_121
